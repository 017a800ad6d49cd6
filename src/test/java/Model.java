import java.math.BigInteger;
import java.util.ArrayList;
import java.util.LinkedHashMap;
import java.util.List;
import java.util.Map;
import java.util.Set;
import java.util.TreeSet;

/**
 * The document once more, written from its words with the Java library and without regard to room or speed: what a
 * place should have is looked up when it is read, counts are counted when they are asked for.
 */
final class Model {
    static final long NONE = -1;

    /** From a state, by an event, to a state. */
    private static final int[][] WAYS = {
        {0, 0, 1}, {1, 1, 0}, {0, 2, 4}, {1, 2, 4}, {2, 2, 4}, {3, 2, 4}, {1, 3, 2}, {3, 4, 1}
    };

    static final class Carrier {
        int kind;
        long serial;
        int state = 0;
        long last = NONE;
        List<Integer> bytes = new ArrayList<>();
        Set<Integer> failed = new TreeSet<>();
        List<Integer> passes = new ArrayList<>();
        List<Integer> bytesBeforeLatestPass = new ArrayList<>();
        Map<Integer, Integer> reads = new LinkedHashMap<>();

        int should(int place) {
            int pattern = passes.get(passes.size() - 1);
            return Model.byPattern(pattern, place, bytesBeforeLatestPass.get(place));
        }

        long unlike() {
            return reads.entrySet().stream().filter(r -> r.getValue() != should(r.getKey())).count();
        }

        boolean gone() {
            return state == 5 || state == 6;
        }
    }

    final List<Carrier> carriers = new ArrayList<>();
    final List<List<Integer>> papers = new ArrayList<>();
    final List<Long> list = new ArrayList<>();
    final List<Integer> lost = new ArrayList<>();

    static int byPattern(int pattern, int place, int before) {
        return switch (pattern) {
            case 256 -> Math.floorMod(7 * place + 3, 256);
            case 257 -> 255 - before;
            default -> pattern;
        };
    }

    private static <T> boolean has(List<T> items, long number) {
        return number >= 0 && number < items.size();
    }

    private static boolean person(int p) {
        return p >= 0 && p <= 9;
    }

    private static boolean serial(long s) {
        return s >= 0 && s <= 1_000_000_000_000L;
    }

    private static <T> T kth(List<T> items, int k) {
        return has(items, k) ? items.get(k) : null;
    }

    private static long numberOrNone(Integer number) {
        return number == null ? NONE : number;
    }

    long carrier(int kind, long serial, int places) {
        boolean such = kind >= 0 && kind <= 3 && serial(serial) && places >= 1 && places <= 64;
        if (!such || carriers.size() == 10 || carriers.stream().anyMatch(c -> c.serial == serial)) {
            return NONE;
        }
        Carrier c = new Carrier();
        c.kind = kind;
        c.serial = serial;
        for (int i = 0; i < places; i++) {
            c.bytes.add(0);
        }
        carriers.add(c);
        return carriers.size() - 1;
    }

    long state(int carrier) {
        return has(carriers, carrier) ? carriers.get(carrier).state : NONE;
    }

    boolean event(int carrier, int event, int person) {
        if (!has(carriers, carrier) || !person(person)) {
            return false;
        }
        Carrier c = carriers.get(carrier);
        for (int[] way : WAYS) {
            if (way[0] == c.state && way[1] == event) {
                c.state = way[2];
                c.last = person;
                if (event == 3) {
                    c.passes.clear();
                    c.reads.clear();
                }
                return true;
            }
        }
        return false;
    }

    long last(int carrier) {
        return has(carriers, carrier) ? carriers.get(carrier).last : NONE;
    }

    boolean fail(int carrier, int place) {
        if (!has(carriers, carrier)) {
            return false;
        }
        Carrier c = carriers.get(carrier);
        return has(c.bytes, place) && !c.gone() && c.failed.add(place);
    }

    long failed(int carrier, int k) {
        return has(carriers, carrier) ? numberOrNone(kth(List.copyOf(carriers.get(carrier).failed), k)) : NONE;
    }

    long pass(int carrier, int pattern) {
        if (!has(carriers, carrier) || pattern < 0 || pattern > 257) {
            return NONE;
        }
        Carrier c = carriers.get(carrier);
        if (c.state != 2 || c.passes.size() == 6) {
            return NONE;
        }
        c.bytesBeforeLatestPass = new ArrayList<>(c.bytes);
        c.passes.add(pattern);
        c.reads.clear();
        for (int i = 0; i < c.bytes.size(); i++) {
            if (!c.failed.contains(i)) {
                c.bytes.set(i, byPattern(pattern, i, c.bytes.get(i)));
            }
        }
        return c.passes.size();
    }

    long byteAt(int carrier, int place) {
        if (!has(carriers, carrier) || carriers.get(carrier).gone()) {
            return NONE;
        }
        return numberOrNone(kth(carriers.get(carrier).bytes, place));
    }

    long read(int carrier, int place, int b) {
        if (!has(carriers, carrier) || b < 0 || b > 255) {
            return NONE;
        }
        Carrier c = carriers.get(carrier);
        if (!has(c.bytes, place) || c.state != 2 || c.passes.isEmpty() || c.reads.containsKey(place)) {
            return NONE;
        }
        c.reads.put(place, b);
        if (c.reads.size() == c.bytes.size() && c.unlike() == 0) {
            c.state = 3;
        }
        return b == c.should(place) ? 1 : 0;
    }

    long unlike(int carrier) {
        return has(carriers, carrier) ? carriers.get(carrier).unlike() : NONE;
    }

    /** One place read after the other: each is a good one of those that are left. */
    long odds(int all, int read, int bad, int part) {
        boolean such = all >= 1 && all <= 40 && read >= 0 && read <= all && bad >= 0 && bad <= all;
        if (!such || part < 0 || part > 1) {
            return NONE;
        }
        BigInteger above = BigInteger.ONE;
        BigInteger below = BigInteger.ONE;
        for (int i = 0; i < read; i++) {
            above = above.multiply(BigInteger.valueOf(Math.max(0, all - bad - i)));
            below = below.multiply(BigInteger.valueOf(all - i));
        }
        BigInteger shared = above.gcd(below);
        return (part == 0 ? above : below).divide(shared).longValueExact();
    }

    boolean shred(int carrier, int millimetres) {
        if (!has(carriers, carrier) || millimetres < 1 || millimetres > 100) {
            return false;
        }
        Carrier c = carriers.get(carrier);
        if (c.state != 3 && c.state != 4 || millimetres > 2 + 6 * c.kind) {
            return false;
        }
        c.state = 5;
        return true;
    }

    long paper(int carrier, int personA, int personB) {
        if (!has(carriers, carrier) || !person(personA) || !person(personB) || personA == personB) {
            return NONE;
        }
        Carrier c = carriers.get(carrier);
        if (c.state != 3 && c.state != 5 || papers.size() == 20) {
            return NONE;
        }
        List<Integer> fields = new ArrayList<>(List.of(carrier, c.kind, personA, personB, c.state, c.passes.size()));
        fields.addAll(c.passes);
        papers.add(fields);
        return papers.size() - 1;
    }

    long at(int paper, int i) {
        return has(papers, paper) ? numberOrNone(kth(papers.get(paper), i)) : NONE;
    }

    private BigInteger markOf(int paper, long key) {
        BigInteger word = BigInteger.ONE.shiftLeft(64);
        BigInteger x = BigInteger.valueOf(key).mod(word);
        for (int field : papers.get(paper)) {
            x = x.add(BigInteger.valueOf(field + 1L)).multiply(new BigInteger("6364136223846793005")).mod(word);
            x = x.xor(x.shiftRight(32));
        }
        return x;
    }

    long mark(int paper, long key, int i) {
        if (!has(papers, paper) || i < 0 || i > 7) {
            return NONE;
        }
        return markOf(paper, key).shiftRight(8 * (7 - i)).mod(BigInteger.valueOf(256)).longValueExact();
    }

    /** The long whose bytes are the mark; 0 when there is no such paper. */
    long markAsLong(int paper, long key) {
        return has(papers, paper) ? markOf(paper, key).longValue() : 0;
    }

    boolean check(int paper, long key, long bytes) {
        return has(papers, paper) && markAsLong(paper, key) == bytes;
    }

    long listed(long serial) {
        if (!serial(serial) || list.contains(serial) || list.size() == 20) {
            return NONE;
        }
        list.add(serial);
        return list.size();
    }

    long missing(int k) {
        List<Integer> missing = new ArrayList<>();
        for (int i = 0; i < list.size(); i++) {
            long serial = list.get(i);
            if (carriers.stream().noneMatch(c -> c.serial == serial)) {
                missing.add(i);
            }
        }
        return numberOrNone(kth(missing, k));
    }

    long extra(int k) {
        List<Integer> extra = new ArrayList<>();
        for (int i = 0; i < carriers.size(); i++) {
            if (!list.contains(carriers.get(i).serial)) {
                extra.add(i);
            }
        }
        return numberOrNone(kth(extra, k));
    }

    long lost(int carrier) {
        if (!has(carriers, carrier) || carriers.get(carrier).gone()) {
            return NONE;
        }
        carriers.get(carrier).state = 6;
        lost.add(carrier);
        return lost.size();
    }

    long told(int k) {
        return numberOrNone(kth(lost, k));
    }

    long states() {
        return carriers.stream().map(c -> c.state).distinct().count();
    }
}
