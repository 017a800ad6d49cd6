/** Promises 18 to 20: the customer's list, compared both ways. */
public final class ListsTest {
    public static void main(String[] args) {
        listedEdges();
        listedLimit();
        comparedBothWays();
        followsBothSides();
        bothFull();
        refusedOnesAreNotCounted();
        lostOnesHaveTheirs();
        Due.end();
    }

    private static void listedEdges() {
        WipePapers x = new WipePapers();
        Due.none("18: serial -1", x.listed(-1L));
        Due.none("18: serial 10^12 + 1", x.listed(1000000000001L));
        Due.none("18: greatest serial", x.listed(Long.MAX_VALUE));
        Due.none("18: least serial", x.listed(Long.MIN_VALUE));
        Due.none("18: none of these is there", x.missing(0));
        Due.is("18: serial 0", x.listed(0L), 1);
        Due.is("18: serial 10^12", x.listed(1000000000000L), 2);
        Due.none("18: 0 is there already", x.listed(0L));
        Due.none("18: 10^12 is there already", x.listed(1000000000000L));
        Due.is("18: 2^32 is not 0", x.listed(1L << 32), 3);
        x.carrier(0, 5L, 1);
        Due.is("18: a carrier's serial", x.listed(5L), 4);
    }

    private static void listedLimit() {
        WipePapers x = new WipePapers();
        for (int i = 0; i < 20; i++) {
            Due.is("18: listed " + i, x.listed(100 - i), i + 1);
        }
        Due.none("18: a 21st", x.listed(7L));
        for (int i = 0; i < 20; i++) {
            Due.is("19: missing(" + i + ")", x.missing(i), i);
        }
        Due.none("19: missing(20)", x.missing(20));
        x.carrier(0, 7L, 1);
        Due.is("20: the 21st is not on the list", x.extra(0), 0);
    }

    private static void comparedBothWays() {
        WipePapers x = new WipePapers();
        long[] list = {50L, 10L, 40L, 20L, 30L};
        long[] carriers = {20L, 60L, 50L, 70L, 5L};
        for (int i = 0; i < 5; i++) {
            x.listed(list[i]);
            x.carrier(0, carriers[i], 1);
        }
        int[] missing = {1, 2, 4};
        int[] extra = {1, 3, 4};
        for (int k = 0; k < 3; k++) {
            Due.is("19: missing(" + k + ")", x.missing(k), missing[k]);
            Due.is("20: extra(" + k + ")", x.extra(k), extra[k]);
        }
        Due.none("19: missing(3)", x.missing(3));
        Due.none("20: extra(3)", x.extra(3));
        for (int far : Made.FAR_OFF) {
            Due.none("19: missing(" + far + ")", x.missing(far));
            Due.none("20: extra(" + far + ")", x.extra(far));
        }
    }

    private static void followsBothSides() {
        WipePapers x = new WipePapers();
        for (int i = 0; i < 10; i++) {
            x.carrier(0, i, 1);
        }
        for (int k = 0; k < 10; k++) {
            Due.is("20: no list, extra(" + k + ")", x.extra(k), k);
        }
        Due.none("20: extra(10)", x.extra(10));
        x.listed(0L);
        Due.is("20: 0 is listed", x.extra(0), 1);
        Due.none("19: none is missing", x.missing(0));
        x.listed(11L);
        Due.is("19: 11 is missing", x.missing(0), 1);
    }

    /** Carriers have the serials 0 .. 9, the list 19 .. 0; then no carrier is extra, and no more comes in. */
    private static void bothFull() {
        WipePapers x = new WipePapers();
        for (int i = 0; i < 20; i++) {
            x.listed(19 - i);
        }
        for (int i = 0; i < 10; i++) {
            Due.is("19: with " + i + " carriers, the last missing one", x.missing(19 - i), 19 - i);
            Due.none("19: behind it", x.missing(20 - i));
            x.carrier(0, i, 1);
            Due.none("20: carrier " + i + " is listed", x.extra(0));
        }
        for (int k = 0; k < 10; k++) {
            Due.is("19: missing(" + k + ")", x.missing(k), k);
        }
        Due.none("19: missing(10)", x.missing(10));
        x.carrier(0, 19L, 1);
        Due.is("19: an 11th carrier has no serial", x.missing(0), 0);
    }

    private static void refusedOnesAreNotCounted() {
        WipePapers x = new WipePapers();
        Due.is("18: the first", x.listed(4L), 1);
        Due.none("18: there already", x.listed(4L));
        Due.none("18: not such", x.listed(-4L));
        Due.is("18: the second", x.listed(3L), 2);
        Due.none("2: a refused carrier", x.carrier(4, 3L, 1));
        Due.is("19: it has no serial", x.missing(1), 1);
        Due.none("20: and is not extra", x.extra(0));
    }

    private static void lostOnesHaveTheirs() {
        WipePapers x = Made.inState(Made.LOST, 0, 1);
        Due.is("20: a lost one not on the list", x.extra(0), 0);
        x.listed(7L);
        Due.none("19: a lost one has its serial", x.missing(0));
        Due.none("20: a lost one on the list", x.extra(0));
        WipePapers y = Made.inState(Made.SHREDDED, 0, 1);
        Due.is("20: a shredded one not on the list", y.extra(0), 0);
        y.listed(7L);
        Due.none("19: a shredded one has its serial", y.missing(0));
    }
}
