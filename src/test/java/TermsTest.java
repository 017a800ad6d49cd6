/** 'Terms', sentence by sentence in the document's order, on objects with several carriers at once. */
public final class TermsTest {
    public static void main(String[] args) {
        carriersAreNumbered();
        placesAreBytes();
        statesHaveNumbers();
        personsAreTen();
        eventsLeadOnlyTheToldWays();
        passesAreNoneThen();
        aPassGoesOverOneCarrier();
        sixAtMostEachTime();
        patterns();
        failedPlacesGetNothing();
        readsAreBehindTheLatestPass();
        unlikeAsIfItHadNotFailed();
        turnedEachTimeAnew();
        cleanByOnePass();
        papersAreNumbered();
        fields();
        markByHand();
        Due.end();
    }

    /** Carriers 0 .. count - 1, carrier c with the serial c and c + 1 places, all held by person 0. */
    private static WipePapers held(int count) {
        WipePapers x = new WipePapers();
        for (int c = 0; c < count; c++) {
            x.carrier(c % 4, c, c + 1);
            x.event(c, 0, 0);
        }
        return x;
    }

    private static WipePapers wiping(int count) {
        WipePapers x = held(count);
        for (int c = 0; c < count; c++) {
            x.event(c, 3, 0);
        }
        return x;
    }

    private static void carriersAreNumbered() {
        WipePapers x = new WipePapers();
        for (int c = 0; c < 10; c++) {
            Due.none("carrier " + c + " is not there yet", x.state(c));
            Due.is("carriers are numbered from 0 on", x.carrier(c % 4, 500L - c, 64 - c), c);
            Due.none("a refused one takes no number", x.carrier(4, 600L + c, 1));
        }
        Due.none("10 at most", x.carrier(0, 700L, 1));
    }

    private static void placesAreBytes() {
        WipePapers x = held(10);
        for (int c = 0; c < 10; c++) {
            for (int i = 0; i <= c; i++) {
                Due.is("place " + i + " of carrier " + c + " is 0 at first", x.byteAt(c, i), 0);
            }
            Due.none("carrier " + c + " has no place more", x.byteAt(c, c + 1));
        }
    }

    private static void statesHaveNumbers() {
        WipePapers x = new WipePapers();
        for (int c = 0; c < 7; c++) {
            x.carrier(0, c, 1);
        }
        for (int c = 1; c <= 3; c++) {
            x.event(c, 0, 0);
        }
        x.event(2, 3, 0);
        x.event(3, 3, 0);
        x.pass(3, 0);
        x.read(3, 0, 0);
        x.event(4, 2, 0);
        x.event(5, 2, 0);
        x.shred(5, 2);
        x.lost(6);
        String[] names = {"taken in", "held", "wiping", "clean", "broken", "shredded", "lost"};
        for (int c = 0; c < 7; c++) {
            Due.is(names[c], x.state(c), c);
        }
    }

    private static void personsAreTen() {
        for (int person = -2; person <= 11; person++) {
            boolean such = person >= 0 && person <= 9;
            int other = person == 0 ? 1 : 0;
            WipePapers x = Made.inState(Made.CLEAN, 0, 1);
            Due.is("a paper's first person " + person, x.paper(0, person, other), such ? 0 : WipePapers.NONE);
            Due.is("a paper's second person " + person, x.paper(0, other, person), such ? 1 : WipePapers.NONE);
            Due.is("an event's person " + person, x.event(0, 4, person) ? 1 : 0, such ? 1 : 0);
        }
    }

    /** Every run of three events from taken in: the state behind each is what the told ways lead to. */
    private static void eventsLeadOnlyTheToldWays() {
        for (int run = 0; run < 5 * 5 * 5; run++) {
            WipePapers x = new WipePapers();
            x.carrier(0, 1L, 1);
            int state = Made.TAKEN_IN;
            for (int step = 0, rest = run; step < 3; step++, rest /= 5) {
                int to = led(state, rest % 5);
                String call = "run " + run + ", event " + rest % 5 + " from state " + state;
                Due.is(call, x.event(0, rest % 5, step) ? 1 : 0, to == state ? 0 : 1);
                state = to;
                Due.is(call + ", then", x.state(0), state);
            }
        }
    }

    /** Where an event leads from a state; the same state when it does not lead from it. */
    private static int led(int state, int event) {
        switch (10 * event + state) {
            case 0:
                return Made.HELD;
            case 11:
                return Made.TAKEN_IN;
            case 20, 21, 22, 23:
                return Made.BROKEN;
            case 31:
                return Made.WIPING;
            case 43:
                return Made.HELD;
            default:
                return state;
        }
    }

    private static void passesAreNoneThen() {
        WipePapers x = wiping(1);
        x.pass(0, 1);
        Made.wipe(x, 0, 1, 2);
        x.event(0, 4, 0);
        x.event(0, 1, 0);
        x.event(0, 0, 0);
        x.event(0, 3, 0);
        x.event(0, 2, 0);
        x.shred(0, 1);
        x.paper(0, 1, 2);
        Due.is("no passes by event 3", x.at(0, 5), 0);
        Due.none("no patterns either", x.at(0, 6));
        WipePapers y = Made.inState(Made.CLEAN, 0, 1);
        y.event(0, 4, 0);
        y.event(0, 1, 0);
        y.event(0, 2, 0);
        y.shred(0, 1);
        y.paper(0, 1, 2);
        Due.is("by no other event", y.at(0, 5), 1);
        Due.is("the pass it had", y.at(0, 6), 9);
    }

    private static void aPassGoesOverOneCarrier() {
        WipePapers x = wiping(10);
        for (int c = 0; c < 10; c += 2) {
            Due.is("a pass over carrier " + c, x.pass(c, 40 + c), 1);
        }
        for (int c = 0; c < 10; c++) {
            for (int i = 0; i <= c; i++) {
                Due.is("place " + i + " of carrier " + c, x.byteAt(c, i), c % 2 == 0 ? 40 + c : 0);
            }
        }
        Due.none("no pass over another one", x.read(1, 0, 0));
    }

    private static void sixAtMostEachTime() {
        WipePapers x = wiping(2);
        for (int time = 0; time < 3; time++) {
            for (int i = 1; i < 6; i++) {
                Due.is("pass " + i + " of time " + time, x.pass(1, 100), i);
            }
            Due.is("the other one's are its own", x.pass(0, 100), time + 1);
            Due.is("the sixth of time " + time, x.pass(1, 30 + time), 6);
            Due.none("a seventh of time " + time, x.pass(1, 100));
            x.read(1, 0, 30 + time);
            x.read(1, 1, 30 + time);
            x.event(1, 4, 0);
            x.event(1, 3, 0);
        }
    }

    private static void patterns() {
        WipePapers x = wiping(10);
        for (int pattern : new int[] {0, 1, 127, 128, 254, 255}) {
            Due.is("pattern " + pattern, x.pass(9, pattern) == WipePapers.NONE ? 0 : 1, 1);
            Due.is("its byte at place 0", x.byteAt(9, 0), pattern);
            Due.is("its byte at place 9", x.byteAt(9, 9), pattern);
        }
        x.pass(8, 256);
        int[] byPlace = {3, 10, 17, 24, 31, 38, 45, 52, 59};
        for (int i = 0; i < byPlace.length; i++) {
            Due.is("pattern 256 at place " + i, x.byteAt(8, i), byPlace[i]);
        }
        x.pass(8, 257);
        int[] turned = {252, 245, 238, 231, 224, 217, 210, 203, 196};
        for (int i = 0; i < turned.length; i++) {
            Due.is("pattern 257 at place " + i, x.byteAt(8, i), turned[i]);
        }
    }

    private static void failedPlacesGetNothing() {
        int[] patterns = {0, 90, 255, 256, 257};
        for (int pattern : patterns) {
            WipePapers x = wiping(3);
            x.pass(2, 66);
            x.fail(2, 1);
            x.pass(2, pattern);
            Due.is("failed, pattern " + pattern, x.byteAt(2, 1), 66);
            int place2 = pattern == 256 ? 17 : pattern == 257 ? 189 : pattern;
            Due.is("not failed, pattern " + pattern, x.byteAt(2, 2), place2);
            x.pass(1, pattern);
            int place1 = pattern == 256 ? 10 : pattern == 257 ? 255 : pattern;
            Due.is("the same place of another one, pattern " + pattern, x.byteAt(1, 1), place1);
        }
    }

    private static void readsAreBehindTheLatestPass() {
        WipePapers x = wiping(3);
        x.pass(2, 5);
        x.pass(1, 5);
        Due.is("unlike behind the first pass", x.read(2, 0, 6), 0);
        Due.is("another one's read", x.read(1, 0, 6), 0);
        x.pass(2, 6);
        Due.is("none behind the second", x.unlike(2), 0);
        Due.is("another one's stays", x.unlike(1), 1);
        Due.is("the place is read again", x.read(2, 0, 6), 1);
        Due.none("but once behind each pass", x.read(2, 0, 6));
        Due.none("another one's was read", x.read(1, 0, 5));
    }

    private static void unlikeAsIfItHadNotFailed() {
        WipePapers x = wiping(4);
        x.pass(3, 77);
        x.fail(3, 1);
        x.pass(3, 256);
        x.fail(3, 2);
        Due.is("a failed place's old byte", x.read(3, 1, 77), 0);
        Due.is("failed behind the pass", x.read(3, 2, 17), 1);
        Due.is("not failed", x.read(3, 3, 24), 1);
        Due.is("one is unlike", x.unlike(3), 1);
        x.pass(3, 4);
        for (int i = 0; i < 4; i++) {
            Due.is("what place " + i + " should have", x.read(3, i, 4), 1);
        }
        Due.is("clean, though two places failed", x.state(3), Made.CLEAN);
        Due.is("the first to fail has its byte", x.byteAt(3, 1), 77);
        Due.is("the second one, too", x.byteAt(3, 2), 17);
    }

    /** A failed place's byte stays, so each pass of 257 should turn that same byte. */
    private static void turnedEachTimeAnew() {
        WipePapers x = wiping(1);
        x.pass(0, 0x0F);
        x.fail(0, 0);
        for (int i = 0; i < 3; i++) {
            x.pass(0, 257);
            Due.is("the failed place keeps its byte", x.byteAt(0, 0), 0x0F);
            Due.is("its byte is unlike", x.read(0, 0, 0x0F), 0);
        }
        x.pass(0, 257);
        Due.is("its byte turned is not", x.read(0, 0, 0xF0), 1);
        Due.is("clean by it", x.state(0), Made.CLEAN);
    }

    private static void cleanByOnePass() {
        WipePapers x = wiping(2);
        x.pass(1, 8);
        x.read(1, 0, 8);
        x.pass(1, 8);
        x.read(1, 1, 8);
        Due.is("half behind each of two passes", x.state(1), Made.WIPING);
        x.read(1, 0, 8);
        Due.is("all behind one", x.state(1), Made.CLEAN);
        Due.is("another one is not", x.state(0), Made.WIPING);
    }

    private static void papersAreNumbered() {
        WipePapers x = Made.inState(Made.CLEAN, 0, 1);
        for (int p = 0; p < 20; p++) {
            Due.none("paper " + p + " is not there yet", x.at(p, 0));
            Due.is("papers are numbered from 0 on", x.paper(0, 2, 3), p);
            Due.none("a refused one takes no number", x.paper(0, 3, 3));
        }
        Due.none("20 at most", x.paper(0, 2, 3));
    }

    private static void fields() {
        WipePapers x = wiping(8);
        x.pass(7, 256);
        x.pass(7, 257);
        Made.wipe(x, 7, 8, 255);
        x.paper(7, 9, 4);
        int[] want = {7, 3, 9, 4, 3, 3, 256, 257, 255};
        for (int i = 0; i < want.length; i++) {
            Due.is("field " + i, x.at(0, i), want[i]);
        }
        Due.none("no field more", x.at(0, want.length));
        Due.none("no field before", x.at(0, -1));
    }

    /**
     * Carrier 0 of kind 0, broken and shredded, by persons 1 and 0: fields 0, 0, 1, 0, 5, 0. The marks were worked
     * out apart from Java.
     */
    private static void markByHand() {
        WipePapers x = Made.inState(Made.SHREDDED, 0, 1);
        x.paper(0, 1, 0);
        int[] byKey0 = {187, 151, 7, 200, 83, 9, 249, 126};
        int[] byKeyMinus1 = {156, 26, 36, 119, 100, 42, 200, 229};
        for (int i = 0; i < 8; i++) {
            Due.is("byte " + i + " by key 0", x.mark(0, 0L, i), byKey0[i]);
            Due.is("byte " + i + " by key -1", x.mark(0, -1L, i), byKeyMinus1[i]);
        }
    }
}
