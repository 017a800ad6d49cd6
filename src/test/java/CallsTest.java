import java.util.function.ToLongFunction;

/** An object is used for at most 512 calls: the 512th still answers as it should, and behind it none throws. */
public final class CallsTest {
    private static final int MOST_CALLS = 512;

    public static void main(String[] args) {
        everyQuestion512Times();
        everyRefusal512Times();
        toAndFro512Times();
        wipedAgainAndAgain();
        allIsFullAtTheEnd();
        behindTheLast();
        Due.end();
    }

    private static void everyQuestion512Times() {
        asked("23: states()", WipePapers::states, 0);
        asked("3: state(0)", x -> x.state(0), WipePapers.NONE);
        asked("12: odds(40, 20, 20, 1)", x -> x.odds(40, 20, 20, 1), 137846528820L);
        asked("12: odds(41, 0, 0, 0)", x -> x.odds(41, 0, 0, 0), WipePapers.NONE);
        asked("16: mark(0, 77, 0)", x -> x.mark(0, 77L, 0), WipePapers.NONE);
        asked("19: missing(0)", x -> x.missing(0), WipePapers.NONE);
        asked("20: extra(0)", x -> x.extra(0), WipePapers.NONE);
        asked("22: told(0)", x -> x.told(0), WipePapers.NONE);
    }

    private static void everyRefusal512Times() {
        asked("2: kind 4", x -> x.carrier(4, 1L, 64), WipePapers.NONE);
        asked("4: event(0, 0, 0)", x -> x.event(0, 0, 0) ? 1 : 0, 0);
        asked("8: pass(0, 0)", x -> x.pass(0, 0), WipePapers.NONE);
        asked("14: paper(0, 1, 2)", x -> x.paper(0, 1, 2), WipePapers.NONE);
        asked("18: listed(-1)", x -> x.listed(-1L), WipePapers.NONE);
        asked("21: lost(0)", x -> x.lost(0), WipePapers.NONE);
    }

    private static void asked(String call, ToLongFunction<WipePapers> asking, long want) {
        WipePapers x = new WipePapers();
        for (int i = 1; i <= MOST_CALLS; i++) {
            Due.is("call " + i + " is " + call, asking.applyAsLong(x), want);
        }
    }

    /** The first call makes the carrier, the 511 behind it hold it, take it back and so on. */
    private static void toAndFro512Times() {
        WipePapers x = new WipePapers();
        x.carrier(0, 1L, 1);
        for (int i = 2; i < MOST_CALLS; i++) {
            Due.yes("4: call " + i, x.event(0, i % 2, i % 10));
        }
        Due.is("3: call 512", x.state(0), Made.TAKEN_IN);
    }

    /** Each turn of four calls wipes the carrier anew: 1 + 1 + 127 * 4 calls, then two. */
    private static void wipedAgainAndAgain() {
        WipePapers x = new WipePapers();
        x.carrier(3, 1L, 1);
        x.event(0, 0, 0);
        for (int turn = 0; turn < 127; turn++) {
            Due.yes("4: wiping in turn " + turn, x.event(0, 3, turn % 10));
            Due.is("8: the first pass in turn " + turn, x.pass(0, turn), 1);
            Due.is("10: as it should be in turn " + turn, x.read(0, 0, turn), 1);
            Due.yes("4: clean to held in turn " + turn, x.event(0, 4, turn % 10));
        }
        Due.is("9: call 511", x.byteAt(0, 0), 126);
        Due.is("5: call 512", x.last(0), 6);
    }

    private static void allIsFullAtTheEnd() {
        WipePapers x = new WipePapers();
        for (int i = 0; i < 10; i++) {
            x.carrier(i % 4, i, 1);
            x.event(i, 2, 0);
            x.shred(i, 1);
        }
        for (int i = 0; i < 20; i++) {
            x.paper(i % 10, 1, 2);
            x.listed(i + 5L);
        }
        int calls = 70;
        while (calls < MOST_CALLS - 4) {
            Due.none("2: there are 10", x.carrier(0, 20L, 1));
            Due.none("14: there are 20", x.paper(0, 1, 2));
            Due.none("18: there are 20", x.listed(3L));
            calls += 3;
        }
        Due.is("15: the last paper", x.at(19, 0), 9);
        Due.is("19: the last missing one", x.missing(14), 19);
        Due.is("20: the last extra one", x.extra(4), 4);
    }

    /** What these answer is free, but nothing may reach the caller as an exception. */
    private static void behindTheLast() {
        WipePapers x = Made.mixed();
        for (int i = 0; i < 3 * MOST_CALLS; i++) {
            x.carrier(i % 4, 1000L + i, 1 + i % 64);
            x.listed(2000L + i);
            x.event(i % 11, i % 6, i % 10);
            x.pass(i % 11, i % 258);
            x.read(i % 11, i % 4, i % 256);
            x.fail(i % 11, i % 65);
            x.paper(i % 11, 1, 2);
            x.at(i % 21, i % 13);
            x.mark(i % 21, i, i % 9);
            x.shred(i % 11, 1);
            x.lost(i % 11);
            x.told(i % 11);
            x.missing(i % 21);
            x.extra(i % 11);
            x.states();
        }
    }
}
