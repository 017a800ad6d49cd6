import java.util.ArrayList;
import java.util.List;

/**
 * What an object answers from here on, told by one of several ways to go on with it: the first ones only ask, the
 * others do what brings to light what no question shows (which places were read, how many passes there are, what is
 * full). Every way stays far enough under 512 calls to follow a making of eighty.
 */
final class Story {
    static final int WAYS = 12;

    private static final int CARRIERS = 10;
    private static final int PAPERS = 20;
    private static final int LISTED = 20;
    private static final int PLACES_LOOKED_AT = 4;
    private static final int MOST_FIELDS = 12;
    private static final int SOMEBODY = 5;

    private final WipePapers x;
    private final List<Long> answers = new ArrayList<>();

    private Story(WipePapers x) {
        this.x = x;
    }

    static List<Long> of(WipePapers x, int way) {
        Story story = new Story(x);
        switch (way) {
            case 0 -> story.askCarriers();
            case 1 -> story.askPapers();
            case 2 -> story.askLists();
            case 3 -> story.readWrong();
            case 4 -> story.readRight();
            case 5 -> story.goOnPassing();
            case 6 -> story.fillUp();
            case 7 -> story.writePapers();
            case 8 -> story.failAll();
            case 9 -> story.goEveryEvent();
            case 10 -> story.breakShredAndWrite();
            default -> story.shredAndLose();
        }
        return story.answers;
    }

    private void tell(long answer) {
        answers.add(answer);
    }

    private void tell(boolean answer) {
        answers.add(answer ? 1L : 0L);
    }

    private void askCarriers() {
        tell(x.states());
        for (int c = 0; c <= CARRIERS; c++) {
            tell(x.state(c));
            tell(x.last(c));
            tell(x.unlike(c));
            for (int i = 0; i <= PLACES_LOOKED_AT; i++) {
                tell(x.failed(c, i));
                tell(x.byteAt(c, i));
            }
        }
    }

    private void askPapers() {
        for (int p = 0; p <= PAPERS; p++) {
            for (int i = 0; i <= MOST_FIELDS; i++) {
                tell(x.at(p, i));
            }
            tell(x.mark(p, 5L, 0));
        }
    }

    private void askLists() {
        for (int k = 0; k <= LISTED; k++) {
            tell(x.missing(k));
        }
        for (int k = 0; k <= CARRIERS; k++) {
            tell(x.extra(k));
            tell(x.told(k));
        }
    }

    private void readWrong() {
        for (int c = 0; c < CARRIERS; c++) {
            for (int i = 0; i < PLACES_LOOKED_AT; i++) {
                tell(x.read(c, i, 201));
            }
            tell(x.unlike(c));
            tell(x.state(c));
        }
    }

    private void readRight() {
        for (int c = 0; c < CARRIERS; c++) {
            for (int i = 0; i < PLACES_LOOKED_AT; i++) {
                int b = x.byteAt(c, i);
                tell(b);
                tell(x.read(c, i, b));
            }
            tell(x.unlike(c));
            tell(x.state(c));
        }
    }

    private void goOnPassing() {
        for (int c = 0; c < CARRIERS; c++) {
            for (int i = 0; i < 7; i++) {
                tell(x.pass(c, 257));
                tell(x.byteAt(c, 0));
            }
            tell(x.read(c, 0, 255));
            tell(x.unlike(c));
        }
    }

    private void fillUp() {
        for (int i = 0; i <= CARRIERS; i++) {
            tell(x.carrier(i % 4, 900000L + i, 1));
        }
        for (int i = 0; i <= LISTED; i++) {
            tell(x.listed(800000L + i));
        }
        // Serials that the makings use, to see whether they are free.
        for (int serial = 0; serial <= LISTED; serial++) {
            tell(x.listed(serial));
        }
        askLists();
    }

    private void writePaper(int c) {
        int p = x.paper(c, 1, 2);
        tell(p);
        for (int i = 0; i <= MOST_FIELDS; i++) {
            tell(x.at(p, i));
        }
    }

    private void writePapers() {
        for (int c = 0; c < CARRIERS; c++) {
            writePaper(c);
        }
        for (int i = 0; i <= PAPERS; i++) {
            tell(x.paper(0, 3, 4));
        }
    }

    private void failAll() {
        for (int c = 0; c < CARRIERS; c++) {
            for (int i = 0; i <= PLACES_LOOKED_AT; i++) {
                tell(x.fail(c, i));
                tell(x.failed(c, 0));
            }
        }
    }

    private void goEveryEvent() {
        for (int c = 0; c < CARRIERS; c++) {
            for (int event : new int[] {0, 4, 3, 1, 2}) {
                tell(x.event(c, event, SOMEBODY));
                tell(x.state(c));
                tell(x.last(c));
                tell(x.pass(c, 6));
            }
        }
    }

    /** So the passes of one that never becomes clean come to light too. */
    private void breakShredAndWrite() {
        for (int c = 0; c < CARRIERS; c++) {
            tell(x.event(c, 2, SOMEBODY));
            tell(x.shred(c, 1));
            writePaper(c);
        }
    }

    private void shredAndLose() {
        for (int c = 0; c < CARRIERS; c++) {
            tell(x.shred(c, 1));
            tell(x.lost(c));
            tell(x.state(c));
            tell(x.told(c));
        }
    }
}
