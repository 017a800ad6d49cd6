import java.math.BigInteger;

/** Promise 12: every fraction, against factorials of any size. */
public final class OddsTest {
    public static void main(String[] args) {
        for (int all = 1; all <= 40; all++) {
            for (int read = 0; read <= all; read++) {
                // A new object each time keeps the calls of one under 512.
                WipePapers x = new WipePapers();
                for (int bad = 0; bad <= all; bad++) {
                    fraction(x, all, read, bad);
                }
            }
        }
        refusals();
        changesNothing();
        Due.end();
    }

    private static void fraction(WipePapers x, int all, int read, int bad) {
        BigInteger above = ways(all - bad, read);
        BigInteger below = ways(all, read);
        BigInteger shared = above.gcd(below);
        String call = "12: odds(" + all + ", " + read + ", " + bad + ", ";
        Due.is(call + "0)", x.odds(all, read, bad, 0), above.divide(shared).longValueExact());
        Due.is(call + "1)", x.odds(all, read, bad, 1), below.divide(shared).longValueExact());
    }

    private static BigInteger ways(int all, int chosen) {
        if (chosen > all) {
            return BigInteger.ZERO;
        }
        return factorial(all).divide(factorial(chosen)).divide(factorial(all - chosen));
    }

    private static BigInteger factorial(int n) {
        BigInteger product = BigInteger.ONE;
        for (int i = 2; i <= n; i++) {
            product = product.multiply(BigInteger.valueOf(i));
        }
        return product;
    }

    private static void refusals() {
        WipePapers x = new WipePapers();
        Due.none("12: all 0", x.odds(0, 0, 0, 0));
        Due.none("12: all 41", x.odds(41, 1, 1, 0));
        Due.none("12: read beyond all", x.odds(5, 6, 0, 0));
        Due.none("12: bad beyond all", x.odds(5, 0, 6, 0));
        Due.none("12: part 2", x.odds(5, 1, 1, 2));
        for (int far : Made.FAR_OFF) {
            Due.none("12: all " + far, x.odds(far, 0, 0, 0));
            Due.none("12: read " + far, x.odds(5, far, 1, 1));
            Due.none("12: bad " + far, x.odds(5, 1, far, 0));
            Due.none("12: part " + far, x.odds(5, 1, 1, far));
        }
        Due.none("12: all least, read least", x.odds(Integer.MIN_VALUE, Integer.MIN_VALUE, 0, 0));
    }

    private static void changesNothing() {
        WipePapers x = Made.inState(Made.WIPING, 1, 2);
        x.pass(0, 4);
        x.odds(2, 1, 1, 0);
        Due.is("12: no place was read by it", x.read(0, 0, 4), 1);
        Due.is("12: the state is as before", x.state(0), Made.WIPING);
    }
}
