import java.math.BigInteger;

/** Promises 13 to 17: shredding, papers, their fields and marks. */
public final class PapersTest {
    private static final long[] KEYS = {0L, 1L, -1L, 77L, Long.MIN_VALUE, Long.MAX_VALUE, 0x123456789ABCDEFL};

    public static void main(String[] args) {
        shredSizes();
        shredCleanOnes();
        shredInEachState();
        shredRefusals();
        paperInEachState();
        paperRefusals();
        everyTwoPersons();
        paperLimit();
        papersOfTenCarriers();
        fieldsOfPasses();
        fieldsAsMade();
        marks();
        marksOfEveryLength();
        everyBitCounts();
        knownMark();
        Due.end();
    }

    private static void shredSizes() {
        int[] most = {2, 8, 14, 20};
        for (int kind = 0; kind <= 3; kind++) {
            for (int size = 1; size <= 100; size++) {
                WipePapers x = Made.inState(Made.BROKEN, kind, 1);
                boolean fine = size <= most[kind];
                String call = "13: shred kind " + kind + " to " + size;
                Due.is(call, x.shred(0, size) ? 1 : 0, fine ? 1 : 0);
                Due.is(call + ", then state", x.state(0), fine ? Made.SHREDDED : Made.BROKEN);
            }
        }
    }

    private static void shredCleanOnes() {
        int[] most = {2, 8, 14, 20};
        for (int kind = 0; kind <= 3; kind++) {
            WipePapers x = Made.inState(Made.CLEAN, kind, 1);
            Due.no("13: kind " + kind + ", greater by one", x.shred(0, most[kind] + 1));
            Due.is("13: still clean", x.state(0), Made.CLEAN);
            Due.yes("13: kind " + kind + ", the greatest", x.shred(0, most[kind]));
            Due.no("13: shredded already", x.shred(0, most[kind]));
            Due.is("13: shredded", x.state(0), Made.SHREDDED);
        }
    }

    private static void shredInEachState() {
        for (int state = 0; state <= 6; state++) {
            WipePapers x = Made.inState(state, 3, 2);
            boolean fine = state == Made.CLEAN || state == Made.BROKEN;
            Due.is("13: shred in state " + state, x.shred(0, 20) ? 1 : 0, fine ? 1 : 0);
            Due.is("13: then state", x.state(0), fine ? Made.SHREDDED : state);
        }
    }

    private static void shredRefusals() {
        WipePapers x = Made.inState(Made.CLEAN, 3, 2);
        Due.no("13: 0 millimetres", x.shred(0, 0));
        Due.no("13: -1 millimetres", x.shred(0, -1));
        Due.no("13: least millimetres", x.shred(0, Integer.MIN_VALUE));
        Due.no("13: 101 millimetres", x.shred(0, 101));
        Due.no("13: carrier 1", x.shred(1, 1));
        for (int far : Made.FAR_OFF) {
            Due.no("13: carrier " + far, x.shred(far, 1));
        }
        Due.is("13: the state is as before", x.state(0), Made.CLEAN);
    }

    private static void paperInEachState() {
        for (int state = 0; state <= 6; state++) {
            WipePapers x = Made.inState(state, 3, 2);
            boolean fine = state == Made.CLEAN || state == Made.SHREDDED;
            Due.is("14: paper in state " + state, x.paper(0, 1, 2), fine ? 0 : WipePapers.NONE);
            Due.is("14: then at(0, 4)", x.at(0, 4), fine ? state : WipePapers.NONE);
        }
    }

    private static void paperRefusals() {
        WipePapers x = Made.inState(Made.CLEAN, 3, 2);
        for (int far : Made.FAR_OFF) {
            Due.none("14: carrier " + far, x.paper(far, 1, 2));
            Due.none("14: first person " + far, x.paper(0, far, 2));
            Due.none("14: second person " + far, x.paper(0, 1, far));
        }
        Due.none("14: carrier 1", x.paper(1, 1, 2));
        Due.none("14: first person 10", x.paper(0, 10, 2));
        Due.none("14: second person 10", x.paper(0, 1, 10));
        Due.none("14: both the same", x.paper(0, 9, 9));
        Due.none("14: none was made", x.at(0, 0));
        Due.is("14: persons 0 and 9", x.paper(0, 0, 9), 0);
        Due.is("14: persons 9 and 0", x.paper(0, 9, 0), 1);
        Due.is("14: first of paper 1", x.at(1, 2), 9);
        Due.is("14: second of paper 1", x.at(1, 3), 0);
    }

    private static void everyTwoPersons() {
        for (int a = 0; a <= 9; a++) {
            WipePapers x = Made.inState(Made.CLEAN, 0, 1);
            int papers = 0;
            for (int b = 0; b <= 9; b++) {
                Due.is("14: persons " + a + " and " + b, x.paper(0, a, b), a == b ? WipePapers.NONE : papers);
                if (a != b) {
                    Due.is("15: the first person", x.at(papers, 2), a);
                    Due.is("15: the second person", x.at(papers, 3), b);
                    papers++;
                }
            }
        }
    }

    private static void papersOfTenCarriers() {
        WipePapers x = new WipePapers();
        for (int c = 0; c < 10; c++) {
            x.carrier(c % 4, c, 1);
            x.event(c, 2, 0);
            x.shred(c, 2);
        }
        for (int p = 0; p < 20; p++) {
            Due.is("14: paper " + p, x.paper(9 - p % 10, 4, 5), p);
            Due.none("14: refused ones are not numbered", x.paper(9 - p % 10, 4, 4));
        }
        for (int p = 0; p < 20; p++) {
            Due.is("15: the carrier of paper " + p, x.at(p, 0), 9 - p % 10);
            Due.is("15: its kind", x.at(p, 1), (9 - p % 10) % 4);
        }
        Due.none("14: a 21st", x.paper(0, 4, 5));
    }

    private static void paperLimit() {
        WipePapers x = Made.inState(Made.CLEAN, 3, 2);
        for (int i = 0; i < 20; i++) {
            Due.is("14: paper " + i, x.paper(0, i % 9, 9), i);
        }
        Due.none("14: a 21st", x.paper(0, 1, 2));
        Due.none("15: at(20, 0)", x.at(20, 0));
        Due.is("15: at(19, 2)", x.at(19, 2), 1);
        Due.yes("14: check(19) is one", x.check(19, 5L, markOf(x, 19, 5L)));
    }

    private static void fieldsOfPasses() {
        for (int passes = 1; passes <= 6; passes++) {
            WipePapers x = new WipePapers();
            x.carrier(0, 1L, 1);
            x.carrier(2, 2L, 1);
            x.event(1, 0, 0);
            x.event(1, 3, 0);
            for (int i = 1; i < passes; i++) {
                x.pass(1, 258 - i);
            }
            Made.wipe(x, 1, 1, 40);
            Due.is("14: paper(1, 6, 3)", x.paper(1, 6, 3), 0);
            int[] head = {1, 2, 6, 3, Made.CLEAN, passes};
            for (int i = 0; i < head.length; i++) {
                Due.is("15: at(0, " + i + ")", x.at(0, i), head[i]);
            }
            for (int i = 1; i < passes; i++) {
                Due.is("15: pattern " + i, x.at(0, 5 + i), 258 - i);
            }
            Due.is("15: the last pattern", x.at(0, 5 + passes), 40);
            Due.none("15: behind it", x.at(0, 6 + passes));
        }
    }

    private static void fieldsAsMade() {
        WipePapers x = Made.inState(Made.CLEAN, 1, 1);
        x.paper(0, 1, 2);
        long mark = markOf(x, 0, 3L);
        x.event(0, 4, 1);
        x.event(0, 3, 1);
        x.pass(0, 8);
        Made.wipe(x, 0, 1, 7);
        x.paper(0, 3, 4);
        x.event(0, 4, 1);
        x.event(0, 2, 1);
        x.shred(0, 1);
        x.paper(0, 5, 6);
        int[][] want = {{0, 1, 1, 2, 3, 1, 9}, {0, 1, 3, 4, 3, 2, 8, 7}, {0, 1, 5, 6, 5, 2, 8, 7}};
        for (int p = 0; p < want.length; p++) {
            for (int i = 0; i < want[p].length; i++) {
                Due.is("15: at(" + p + ", " + i + ")", x.at(p, i), want[p][i]);
            }
            Due.none("15: behind paper " + p, x.at(p, want[p].length));
            for (int far : Made.FAR_OFF) {
                Due.none("15: field " + far, x.at(p, far));
                Due.none("15: paper " + far, x.at(far, 0));
            }
        }
        Due.yes("16: the mark is as made", x.check(0, 3L, mark));
        WipePapers y = Made.inState(Made.SHREDDED, 1, 1);
        y.paper(0, 1, 2);
        Due.is("15: no passes", y.at(0, 5), 0);
        Due.none("15: no patterns", y.at(0, 6));
    }

    private static long markOf(WipePapers x, int paper, long key) {
        BigInteger word = BigInteger.ONE.shiftLeft(64);
        BigInteger mark = BigInteger.valueOf(key).mod(word);
        for (int i = 0; x.at(paper, i) != WipePapers.NONE; i++) {
            mark = mark.add(BigInteger.valueOf(x.at(paper, i) + 1L));
            mark = mark.multiply(BigInteger.valueOf(6364136223846793005L)).mod(word);
            mark = mark.xor(mark.shiftRight(32));
        }
        return mark.longValue();
    }

    private static void marks() {
        WipePapers x = Made.inState(Made.CLEAN, 1, 1);
        x.paper(0, 1, 2);
        for (long key : KEYS) {
            long mark = markOf(x, 0, key);
            for (int i = 0; i < 8; i++) {
                Due.is("16: mark(0, " + key + ", " + i + ")", x.mark(0, key, i), (mark >>> (56 - 8 * i)) & 255);
            }
            Due.none("16: byte 8", x.mark(0, key, 8));
            Due.none("16: paper 1", x.mark(1, key, 0));
            Due.yes("17: check(0, " + key + ")", x.check(0, key, mark));
            Due.no("17: a bit off below", x.check(0, key, mark ^ 1L));
            Due.no("17: a bit off above", x.check(0, key, mark ^ (1L << 63)));
            Due.no("17: another key", x.check(0, key + 1, mark));
            Due.no("17: bytes the other way", x.check(0, key, Long.reverseBytes(mark)));
            Due.no("17: paper 1", x.check(1, key, mark));
        }
        for (int far : Made.FAR_OFF) {
            Due.none("16: byte " + far, x.mark(0, 1L, far));
            Due.none("16: paper " + far, x.mark(far, 1L, 0));
            Due.no("17: paper " + far, x.check(far, 1L, 1L));
        }
    }

    /** Papers of 0 to 6 passes, and keys by which the sums wrap. */
    private static void marksOfEveryLength() {
        for (int passes = 0; passes <= 6; passes++) {
            WipePapers x = Made.inState(Made.WIPING, 3, 1);
            for (int i = 0; i < passes; i++) {
                x.pass(0, 252 + i);
            }
            x.event(0, 2, 1);
            x.shred(0, 20);
            x.paper(0, 8, 7);
            Due.is("15: passes", x.at(0, 5), passes);
            for (long key : KEYS) {
                String call = "17: check(0, " + key + ") with " + passes + " passes";
                Due.yes(call, x.check(0, key, markOf(x, 0, key)));
            }
        }
    }

    private static void everyBitCounts() {
        WipePapers x = Made.inState(Made.CLEAN, 1, 1);
        x.paper(0, 1, 2);
        long mark = markOf(x, 0, 77L);
        Due.yes("17: the mark", x.check(0, 77L, mark));
        for (int bit = 0; bit < 64; bit++) {
            Due.no("17: bit " + bit + " of the mark is off", x.check(0, 77L, mark ^ (1L << bit)));
            Due.no("17: bit " + bit + " of the key is off", x.check(0, 77L ^ (1L << bit), mark));
        }
    }

    /** A mark from the shared runs, so that not all hangs on markOf. */
    private static void knownMark() {
        WipePapers x = Made.inState(Made.WIPING, 0, 1);
        x.pass(0, 0);
        x.pass(0, 170);
        x.pass(0, 257);
        x.read(0, 0, 85);
        x.paper(0, 1, 2);
        Due.yes("17: check(0, 77, 4705103571273624786)", x.check(0, 77L, 4705103571273624786L));
        Due.is("16: mark(0, 77, 0)", x.mark(0, 77L, 0), 65);
        Due.is("16: mark(0, 77, 7)", x.mark(0, 77L, 7), 210);
    }
}
