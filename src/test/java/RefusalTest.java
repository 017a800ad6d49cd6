/**
 * A call that is refused changes nothing, nor does one that only asks: of two objects one gets every call of a run,
 * the other only those that change something; both answer those alike. And no call ever throws.
 */
public final class RefusalTest {
    private static final int RUNS = 3000;
    private static final int CALLS = 500;
    private static final int CHANGING_METHODS = 9;
    private static final int METHODS = 22;
    private static final int LOST = 8;

    private static long dice = 20261115L;

    public static void main(String[] args) {
        for (int run = 0; run < RUNS; run++) {
            twins(run);
        }
        Due.end();
    }

    private static void twins(int run) {
        WipePapers all = new WipePapers();
        WipePapers few = new WipePapers();
        boolean wild = run % 4 == 0;
        for (int i = 0; i < CALLS; i++) {
            int method = rollMethod();
            int sides = 2 + run % 5;
            long[] a = {number(sides, wild), number(sides, wild), number(sides, wild), number(sides, wild)};
            long got = answer(all, method, a);
            boolean refused = method < CHANGING_METHODS && got == (method < 3 ? 0 : WipePapers.NONE);
            // The plain object is asked nothing before the last fifth, so that a change by a question shows there.
            boolean toBoth = method < CHANGING_METHODS ? !refused : i > CALLS * 4 / 5;
            if (toBoth) {
                Due.is("run " + run + ", call " + i + " of method " + method, answer(few, method, a), got);
            }
        }
    }

    /** Seldom a loss, since nothing goes on with a lost carrier. */
    private static int rollMethod() {
        int method = roll(METHODS);
        return method == LOST && roll(8) != 0 ? 0 : method;
    }

    private static long number(int sides, boolean wild) {
        if (wild && roll(6) == 0) {
            long[] odd = {-1, Integer.MIN_VALUE, Integer.MAX_VALUE, Long.MIN_VALUE, Long.MAX_VALUE, 1000000000001L};
            return odd[roll(odd.length)];
        }
        return roll(sides);
    }

    private static int roll(int sides) {
        dice = dice * 6364136223846793005L + 1442695040888963407L;
        return (int) ((dice >>> 33) % sides);
    }

    private static long answer(WipePapers x, int method, long[] a) {
        int p = (int) a[0];
        int q = (int) a[1];
        int r = (int) a[2];
        int s = (int) a[3];
        switch (method) {
            case 0: return x.event(p, q, r) ? 1 : 0;
            case 1: return x.fail(p, q) ? 1 : 0;
            case 2: return x.shred(p, q) ? 1 : 0;
            case 3: return x.carrier(p, a[1], r);
            case 4: return x.pass(p, q);
            case 5: return x.read(p, q, r);
            case 6: return x.paper(p, q, r);
            case 7: return x.listed(a[0]);
            case LOST: return x.lost(p);
            case 9: return x.state(p);
            case 10: return x.last(p);
            case 11: return x.failed(p, q);
            case 12: return x.byteAt(p, q);
            case 13: return x.unlike(p);
            case 14: return x.odds(p, q, r, s);
            case 15: return x.at(p, q + 3);
            case 16: return x.mark(p, a[1], r);
            case 17: return x.check(p, a[1], a[2]) ? 1 : 0;
            case 18: return x.missing(p);
            case 19: return x.extra(p);
            case 20: return x.told(p);
            default: return x.states();
        }
    }
}
