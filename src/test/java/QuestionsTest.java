/**
 * The calls that only ask: each sentence by which one answers NONE (or false), and the edges within which it does
 * not; no question changes anything.
 */
public final class QuestionsTest {
    private static final int[] NO_CARRIERS = {-1, 9, 10, Integer.MIN_VALUE, Integer.MAX_VALUE};
    private static final int[] NO_PAPERS = {-1, 2, 20, Integer.MIN_VALUE, Integer.MAX_VALUE};
    private static final int[] EXTREMES = {-1, Integer.MIN_VALUE, Integer.MAX_VALUE};

    public static void main(String[] args) {
        carriersOfNone();
        states();
        last();
        failed();
        byteAt();
        unlike();
        odds();
        at();
        mark();
        check();
        missing();
        extra();
        told();
        Due.end();
    }

    private static void carriersOfNone() {
        for (int carrier : NO_CARRIERS) {
            Twins.refuses("3: state(" + carrier + ")", Made::mixed, x -> x.state(carrier));
            Twins.refuses("5: last(" + carrier + ")", Made::mixed, x -> x.last(carrier));
            Twins.refuses("7: failed(" + carrier + ", 0)", Made::mixed, x -> x.failed(carrier, 0));
            Twins.refuses("9: byteAt(" + carrier + ", 0)", Made::mixed, x -> x.byteAt(carrier, 0));
            Twins.refuses("11: unlike(" + carrier + ")", Made::mixed, x -> x.unlike(carrier));
        }
        Twins.answers("3: the tenth", Made::fullOfCarriers, x -> x.state(9), Made.HELD);
        Twins.refuses("3: behind the tenth", Made::fullOfCarriers, x -> x.state(10));
        Twins.answers("5: the tenth", Made::fullOfCarriers, x -> x.last(9), 9);
        Twins.refuses("5: behind the tenth", Made::fullOfCarriers, x -> x.last(10));
    }

    private static void states() {
        for (int state = 0; state <= 6; state++) {
            for (int carrier : Made.mixedIn(state)) {
                Twins.answers("3: state(" + carrier + ")", Made::mixed, x -> x.state(carrier), state);
            }
        }
        Twins.answers("23: none", WipePapers::new, WipePapers::states, 0);
        Twins.answers("23: all seven", Made::mixed, WipePapers::states, 7);
        Twins.answers("23: all seven, ten carriers", Made::fullOfCarriers, WipePapers::states, 7);
    }

    private static void last() {
        Twins.refuses("5: no event", Made::mixed, x -> x.last(0));
        Twins.refuses("5: lost without an event", Made::mixed, x -> x.last(6));
        Twins.answers("5: the latest of two", Made::mixed, x -> x.last(2), 2);
        Twins.answers("5: a broken one's", Made::mixed, x -> x.last(4), 4);
    }

    private static void failed() {
        Twins.answers("7: failed(1, 0)", Made::mixed, x -> x.failed(1, 0), 2);
        Twins.refuses("7: none failed", Made::mixed, x -> x.failed(0, 0));
        Twins.refuses("7: behind the last", Made::mixed, x -> x.failed(1, 1));
        Twins.refuses("7: a place's number is no k", Made::mixed, x -> x.failed(1, 2));
        for (int k : EXTREMES) {
            Twins.refuses("7: k " + k, Made::mixed, x -> x.failed(1, k));
        }
    }

    private static void byteAt() {
        Twins.answers("9: the first place", Made::mixed, x -> x.byteAt(2, 0), 70);
        Twins.answers("9: a failed place", Made::mixed, x -> x.byteAt(2, 1), 0);
        Twins.answers("9: the last place", Made::mixed, x -> x.byteAt(2, 2), 70);
        Twins.answers("9: broken", Made::mixed, x -> x.byteAt(4, 0), 12);
        Twins.refuses("9: behind the last place", Made::mixed, x -> x.byteAt(2, 3));
        Twins.refuses("9: shredded", Made::mixed, x -> x.byteAt(5, 0));
        Twins.refuses("9: lost", Made::mixed, x -> x.byteAt(6, 0));
        for (int place : EXTREMES) {
            Twins.refuses("9: place " + place, Made::mixed, x -> x.byteAt(2, place));
        }
    }

    private static void unlike() {
        int[] want = {0, 0, 1, 0, 1, 0, 0, 0, 0};
        for (int carrier = 0; carrier < want.length; carrier++) {
            int c = carrier;
            Twins.answers("11: unlike(" + c + ")", Made::mixed, x -> x.unlike(c), want[c]);
        }
    }

    private static void odds() {
        Twins.answers("12: odds(3, 1, 1, 0)", Made::mixed, x -> x.odds(3, 1, 1, 0), 2);
        Twins.answers("12: odds(3, 1, 1, 1)", Made::mixed, x -> x.odds(3, 1, 1, 1), 3);
        Twins.answers("12: 0 is 0 over 1, above", Made::mixed, x -> x.odds(40, 40, 40, 0), 0);
        Twins.answers("12: 0 is 0 over 1, below", Made::mixed, x -> x.odds(40, 40, 40, 1), 1);
        for (int part = 0; part <= 1; part++) {
            int p = part;
            Twins.refuses("12: all 0", Made::mixed, x -> x.odds(0, 0, 0, p));
            Twins.refuses("12: all 41", Made::mixed, x -> x.odds(41, 0, 0, p));
            Twins.refuses("12: read all + 1", Made::mixed, x -> x.odds(40, 41, 0, p));
            Twins.refuses("12: bad all + 1", Made::mixed, x -> x.odds(40, 0, 41, p));
            for (int no : EXTREMES) {
                Twins.refuses("12: all " + no, Made::mixed, x -> x.odds(no, 0, 0, p));
                Twins.refuses("12: read " + no, Made::mixed, x -> x.odds(3, no, 1, p));
                Twins.refuses("12: bad " + no, Made::mixed, x -> x.odds(3, 1, no, p));
            }
        }
        for (int part : new int[] {-1, 2, Integer.MIN_VALUE, Integer.MAX_VALUE}) {
            Twins.refuses("12: part " + part, Made::mixed, x -> x.odds(3, 1, 1, part));
        }
    }

    private static void at() {
        int[][] want = {{3, 3, 1, 2, Made.CLEAN, 1, 11}, {5, 1, 9, 0, Made.SHREDDED, 1, 14}};
        for (int paper = 0; paper < want.length; paper++) {
            int p = paper;
            for (int field = 0; field < want[p].length; field++) {
                int i = field;
                Twins.answers("15: at(" + p + ", " + i + ")", Made::mixed, x -> x.at(p, i), want[p][i]);
            }
            Twins.refuses("15: behind the last field", Made::mixed, x -> x.at(p, want[p].length));
            for (int i : EXTREMES) {
                Twins.refuses("15: field " + i, Made::mixed, x -> x.at(p, i));
            }
        }
        for (int paper : NO_PAPERS) {
            Twins.refuses("15: paper " + paper, Made::mixed, x -> x.at(paper, 0));
        }
        Twins.answers("15: the twentieth", Made::fullOfPapers, x -> x.at(19, 0), 3);
        Twins.refuses("15: behind the twentieth", Made::fullOfPapers, x -> x.at(20, 0));
    }

    private static void mark() {
        for (long key : new long[] {0L, 77L, Long.MIN_VALUE, Long.MAX_VALUE}) {
            Twins.refuses("16: byte -1", Made::mixed, x -> x.mark(0, key, -1));
            Twins.refuses("16: byte 8", Made::mixed, x -> x.mark(0, key, 8));
            Twins.refuses("16: least byte", Made::mixed, x -> x.mark(0, key, Integer.MIN_VALUE));
            Twins.refuses("16: greatest byte", Made::mixed, x -> x.mark(0, key, Integer.MAX_VALUE));
            for (int paper : NO_PAPERS) {
                Twins.refuses("16: paper " + paper, Made::mixed, x -> x.mark(paper, key, 0));
            }
            Twins.refuses("16: behind the twentieth", Made::fullOfPapers, x -> x.mark(20, key, 0));
        }
    }

    private static void check() {
        for (long bytes : new long[] {0L, -1L, Long.MIN_VALUE, Long.MAX_VALUE}) {
            for (int paper : NO_PAPERS) {
                Twins.denies("17: paper " + paper, Made::mixed, x -> x.check(paper, 77L, bytes));
                // Such bytes could be a mark of no fields at all.
                Twins.denies("17: paper " + paper + ", the key", Made::mixed, x -> x.check(paper, bytes, bytes));
            }
            Twins.denies("17: behind the twentieth", Made::fullOfPapers, x -> x.check(20, 77L, bytes));
            Twins.denies("17: not its mark", Made::mixed, x -> x.check(0, 77L, bytes));
        }
    }

    private static void missing() {
        Twins.refuses("19: no list", WipePapers::new, x -> x.missing(0));
        Twins.answers("19: lost and shredded ones have theirs", Made::mixed, x -> x.missing(0), 3);
        Twins.refuses("19: behind the last", Made::mixed, x -> x.missing(1));
        Twins.answers("19: the last of twenty", Made::fullOfListed, x -> x.missing(16), 19);
        Twins.refuses("19: behind it", Made::fullOfListed, x -> x.missing(17));
        for (int k : EXTREMES) {
            Twins.refuses("19: k " + k, Made::fullOfListed, x -> x.missing(k));
        }
    }

    private static void extra() {
        int[] want = {1, 2, 3, 4, 7, 8, 9};
        Twins.refuses("20: no carriers", WipePapers::new, x -> x.extra(0));
        for (int place = 0; place < want.length; place++) {
            int k = place;
            Twins.answers("20: extra(" + k + ")", Made::fullOfCarriers, x -> x.extra(k), want[k]);
        }
        Twins.refuses("20: behind the last", Made::fullOfCarriers, x -> x.extra(want.length));
        for (int k : EXTREMES) {
            Twins.refuses("20: k " + k, Made::fullOfCarriers, x -> x.extra(k));
        }
    }

    private static void told() {
        Twins.refuses("22: none lost", WipePapers::new, x -> x.told(0));
        Twins.answers("22: the first", Made::mixed, x -> x.told(0), 6);
        Twins.refuses("22: behind the last", Made::mixed, x -> x.told(1));
        for (int k : EXTREMES) {
            Twins.refuses("22: k " + k, Made::mixed, x -> x.told(k));
        }
    }
}
