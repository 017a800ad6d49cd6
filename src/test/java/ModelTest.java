import java.util.ArrayList;
import java.util.List;

/**
 * Runs of 512 calls, the most that one object is used for, each answer against the model's; most calls are near to
 * what the object can take just then, so that the runs come to full lists, sixth passes and clean carriers.
 */
public final class ModelTest {
    private static final int RUNS = 4000;
    private static final int MOST_CALLS = 512;
    private static final int METHODS = 22;
    private static final int EVENT = 2;
    private static final int PASS = 6;
    private static final int READ = 8;
    private static final int LOST = 19;
    private static final int[] ODD_NUMBERS = {
        -1, 10, 20, 40, 41, 64, 65, 257, 258, Integer.MIN_VALUE, Integer.MAX_VALUE
    };
    private static final long[] ODD_SERIALS = {-1L, 1000000000000L, 1000000000001L, Long.MIN_VALUE, Long.MAX_VALUE};

    private static long dice = 5L;

    private final int run;
    private final WipePapers x = new WipePapers();
    private final Model model = new Model();
    /** How likely each method is in this run; the runs differ by it. */
    private final List<Integer> methods = new ArrayList<>();
    private final int mostPlaces;
    private final boolean wild;

    private ModelTest(int run) {
        this.run = run;
        mostPlaces = run % 8 == 0 ? 66 : 1 + run % 4;
        wild = run % 3 == 0;
        for (int method = 0; method < METHODS; method++) {
            likelier(method, 1 + roll(6));
        }
        // One carrier takes many reads to become clean, and a loss ends all that could be done with it.
        likelier(EVENT, 15);
        likelier(PASS, 4);
        likelier(READ, 26);
        likelier(roll(METHODS), 30);
        if (roll(4) != 0) {
            methods.removeIf(method -> method == LOST);
        }
    }

    private void likelier(int method, int times) {
        for (int i = 0; i < times; i++) {
            methods.add(method);
        }
    }

    public static void main(String[] args) {
        Reached reached = new Reached();
        for (int run = 0; run < RUNS; run++) {
            ModelTest test = new ModelTest(run);
            for (int call = 1; call <= MOST_CALLS; call++) {
                test.oneCall(call);
            }
            reached.look(test.model);
        }
        reached.end();
        Due.end();
    }

    /** Runs that came to an edge; were there none, this test would say little about it. */
    private static final class Reached {
        private int tenCarriers;
        private int twentyPapers;
        private int twentyListed;
        private int sixPassesOnPaper;
        private int nineLost;
        private int sixStates;

        void look(Model model) {
            tenCarriers += model.carriers.size() == 10 ? 1 : 0;
            twentyPapers += model.papers.size() == 20 ? 1 : 0;
            twentyListed += model.list.size() == 20 ? 1 : 0;
            sixPassesOnPaper += model.papers.stream().anyMatch(p -> p.size() == 12) ? 1 : 0;
            nineLost += model.lost.size() >= 9 ? 1 : 0;
            sixStates += model.states() >= 6 ? 1 : 0;
        }

        void end() {
            Due.yes("runs with ten carriers", tenCarriers > 0);
            Due.yes("runs with twenty papers", twentyPapers > 0);
            Due.yes("runs with twenty listed", twentyListed > 0);
            Due.yes("runs with six passes on a paper", sixPassesOnPaper > 0);
            Due.yes("runs with nine lost", nineLost > 0);
            Due.yes("runs with six states", sixStates > 0);
        }
    }

    private static int roll(int sides) {
        dice = dice * 6364136223846793005L + 1442695040888963407L;
        return (int) ((dice >>> 33) % sides);
    }

    private int number(int below) {
        if (wild && roll(12) == 0) {
            return ODD_NUMBERS[roll(ODD_NUMBERS.length)];
        }
        return roll(Math.max(1, below));
    }

    private int someCarrier() {
        return number(model.carriers.size() + (roll(8) == 0 ? 1 : 0));
    }

    private int somePaper() {
        return number(model.papers.size() + (roll(8) == 0 ? 1 : 0));
    }

    private int somePerson() {
        return number(10);
    }

    private long someSerial() {
        return wild && roll(12) == 0 ? ODD_SERIALS[roll(ODD_SERIALS.length)] : roll(30);
    }

    /** Most often a carrier in one of two states, if there is one. */
    private int carrierIn(int state, int otherState) {
        for (int i = 0; i < model.carriers.size(); i++) {
            int found = model.carriers.get(i).state;
            if ((found == state || found == otherState) && roll(3) != 0) {
                return i;
            }
        }
        return someCarrier();
    }

    /** Now and then an event that breaks a carrier, since nothing but a shredder follows. */
    private int someEvent() {
        int event = number(roll(10) == 0 ? 6 : 5);
        return event == 2 && roll(6) != 0 ? 3 : event;
    }

    private int somePattern() {
        return roll(3) == 0 ? 256 + roll(2) : number(256);
    }

    private int[] someRead() {
        int carrier = carrierIn(Made.WIPING, Made.WIPING);
        if (carrier < 0 || carrier >= model.carriers.size()) {
            return new int[] {carrier, number(4), number(256)};
        }
        Model.Carrier c = model.carriers.get(carrier);
        int place = number(c.bytes.size());
        for (int i = 0; i < c.bytes.size() && c.reads.containsKey(place) && roll(10) != 0; i++) {
            place = (place + 1) % c.bytes.size();
        }
        boolean known = !c.passes.isEmpty() && place >= 0 && place < c.bytes.size();
        int b = known && roll(20) != 0 ? c.should(place) : number(256);
        return new int[] {carrier, place, b};
    }

    private void due(int call, String name, long got, long want) {
        Due.is("run " + run + ", call " + call + ", " + name, got, want);
    }

    private void due(int call, String name, boolean got, boolean want) {
        due(call, name, got ? 1 : 0, want ? 1 : 0);
    }

    private void oneCall(int call) {
        int method = methods.get(roll(methods.size()));
        if (method < 10) {
            carrierCall(call, method);
        } else {
            otherCall(call, method);
        }
    }

    private void carrierCall(int call, int method) {
        int c = someCarrier();
        switch (method) {
            case 0 -> {
                int kind = number(4);
                long serial = someSerial();
                int places = number(mostPlaces + 1);
                due(call, "carrier", x.carrier(kind, serial, places), model.carrier(kind, serial, places));
            }
            case 1 -> due(call, "state", x.state(c), model.state(c));
            case EVENT -> {
                int event = someEvent();
                int person = somePerson();
                due(call, "event", x.event(c, event, person), model.event(c, event, person));
            }
            case 3 -> due(call, "last", x.last(c), model.last(c));
            case 4 -> {
                int place = number(mostPlaces + 1);
                due(call, "fail", x.fail(c, place), model.fail(c, place));
            }
            case 5 -> {
                int k = number(3);
                due(call, "failed", x.failed(c, k), model.failed(c, k));
            }
            case PASS -> {
                int wiping = carrierIn(Made.WIPING, Made.WIPING);
                int pattern = somePattern();
                due(call, "pass", x.pass(wiping, pattern), model.pass(wiping, pattern));
            }
            case 7 -> {
                int place = number(mostPlaces + 1);
                due(call, "byteAt", x.byteAt(c, place), model.byteAt(c, place));
            }
            case READ -> {
                int[] read = someRead();
                due(call, "read", x.read(read[0], read[1], read[2]), model.read(read[0], read[1], read[2]));
            }
            default -> due(call, "unlike", x.unlike(c), model.unlike(c));
        }
    }

    private void otherCall(int call, int method) {
        int c = someCarrier();
        int p = somePaper();
        switch (method) {
            case 10 -> {
                int all = number(42);
                int read = number(all);
                int bad = number(all);
                int part = number(2);
                due(call, "odds", x.odds(all, read, bad, part), model.odds(all, read, bad, part));
            }
            case 11 -> {
                int millimetres = number(24);
                due(call, "shred", x.shred(c, millimetres), model.shred(c, millimetres));
            }
            case 12 -> {
                int a = somePerson();
                int b = somePerson();
                int done = carrierIn(Made.CLEAN, Made.SHREDDED);
                due(call, "paper", x.paper(done, a, b), model.paper(done, a, b));
            }
            case 13 -> {
                int i = number(13);
                due(call, "at", x.at(p, i), model.at(p, i));
            }
            case 14 -> {
                long key = dice;
                int i = number(9);
                due(call, "mark", x.mark(p, key, i), model.mark(p, key, i));
            }
            case 15 -> {
                long key = dice;
                long bytes = model.markAsLong(p, key) ^ (long) roll(2) << roll(64);
                due(call, "check", x.check(p, key, bytes), model.check(p, key, bytes));
            }
            case 16 -> {
                long serial = someSerial();
                due(call, "listed", x.listed(serial), model.listed(serial));
            }
            default -> listCall(call, method);
        }
    }

    private void listCall(int call, int method) {
        int k = number(method == 17 ? 20 : 10);
        switch (method) {
            case 17 -> due(call, "missing", x.missing(k), model.missing(k));
            case 18 -> due(call, "extra", x.extra(k), model.extra(k));
            case LOST -> due(call, "lost", x.lost(k), model.lost(k));
            case 20 -> due(call, "told", x.told(k), model.told(k));
            default -> due(call, "states", x.states(), model.states());
        }
    }
}
