/** Data carriers that are wiped, the papers about them, and a customer's list of them. */
public final class WipePapers {
    public static final int NONE = -1;

    private static final int MOST_CARRIERS = 10;
    private static final int MOST_PAPERS = 20;
    private static final int MOST_LISTED = 20;
    private static final int MOST_PLACES = 64;
    private static final int MOST_PASSES = 6;
    private static final int MOST_SAMPLED = 40;
    private static final int MOST_MILLIMETRES = 100;
    private static final int LAST_KIND = 3;
    private static final int LAST_PERSON = 9;
    private static final long LAST_SERIAL = 1000000000000L;
    private static final int LAST_BYTE = 255;

    private static final int TAKEN_IN = 0;
    private static final int HELD = 1;
    private static final int WIPING = 2;
    private static final int CLEAN = 3;
    private static final int BROKEN = 4;
    private static final int SHREDDED = 5;
    private static final int LOST = 6;

    private static final int EVENT_HOLD = 0;
    private static final int EVENT_TAKE_BACK = 1;
    private static final int EVENT_BREAK = 2;
    private static final int EVENT_START_WIPING = 3;
    private static final int EVENT_KEEP_CLEAN_ONE = 4;

    private static final int PATTERN_BY_PLACE = 256;
    private static final int PATTERN_TURNED = 257;

    private static final int FIELDS_BEFORE_PATTERNS = 6;
    private static final int MARK_BYTES = 8;
    private static final long MARK_FACTOR = 6364136223846793005L;

    // Euclid's steps for numbers up to 40 over 20 (below 2^38) stay under 60.
    private static final int MOST_DIVISOR_STEPS = 100;

    private final Carrier[] carriers;
    private int carrierCount;
    private final Paper[] papers;
    private int paperCount;
    private final long[] list;
    private int listCount;
    private final int[] lostCarriers;
    private int lostCount;

    public WipePapers() {
        carriers = new Carrier[MOST_CARRIERS];
        carrierCount = 0;
        papers = new Paper[MOST_PAPERS];
        paperCount = 0;
        list = new long[MOST_LISTED];
        listCount = 0;
        lostCarriers = new int[MOST_CARRIERS];
        lostCount = 0;
    }

    public int carrier(int kind, long serial, int places) {
        if (!within(kind, 0, LAST_KIND) || !isSerial(serial) || !within(places, 1, MOST_PLACES)) {
            return NONE;
        }
        if (carrierCount >= carriers.length || carrierHasSerial(serial)) {
            return NONE;
        }
        carriers[carrierCount] = new Carrier(kind, serial, places);
        carrierCount++;
        return carrierCount - 1;
    }

    public int state(int carrier) {
        Carrier c = findCarrier(carrier);
        return c == null ? NONE : c.condition;
    }

    public boolean event(int carrier, int event, int person) {
        Carrier c = findCarrier(carrier);
        if (c == null || !isPerson(person) || !leadsFrom(event, c.condition)) {
            return false;
        }
        if (event == EVENT_START_WIPING) {
            c.forgetPasses();
        }
        c.condition = leadsTo(event);
        c.latestPerson = person;
        return true;
    }

    public int last(int carrier) {
        Carrier c = findCarrier(carrier);
        return c == null ? NONE : c.latestPerson;
    }

    public boolean fail(int carrier, int place) {
        Carrier c = findCarrier(carrier);
        return c != null && !c.isGone() && c.wearOut(place);
    }

    public int failed(int carrier, int k) {
        Carrier c = findCarrier(carrier);
        return c == null ? NONE : c.wornPlace(k);
    }

    public int pass(int carrier, int pattern) {
        Carrier c = findCarrier(carrier);
        if (c == null || !within(pattern, 0, PATTERN_TURNED)) {
            return NONE;
        }
        return c.overwrite(pattern);
    }

    public int byteAt(int carrier, int place) {
        Carrier c = findCarrier(carrier);
        if (c == null || c.isGone() || !c.hasPlace(place)) {
            return NONE;
        }
        return c.bytes[place];
    }

    public int read(int carrier, int place, int b) {
        Carrier c = findCarrier(carrier);
        if (c == null || !within(b, 0, LAST_BYTE)) {
            return NONE;
        }
        return c.takeReading(place, b);
    }

    public int unlike(int carrier) {
        Carrier c = findCarrier(carrier);
        return c == null ? NONE : c.unlikeCount;
    }

    public long odds(int all, int read, int bad, int part) {
        if (!within(all, 1, MOST_SAMPLED) || !within(part, 0, 1)) {
            return NONE;
        }
        if (!within(read, 0, all) || !within(bad, 0, all)) {
            return NONE;
        }
        long above = waysToChoose(all - bad, read);
        long below = waysToChoose(all, read);
        long divisor = commonDivisor(above, below);
        return (part == 0 ? above : below) / divisor;
    }

    public boolean shred(int carrier, int millimetres) {
        Carrier c = findCarrier(carrier);
        if (c == null || !within(millimetres, 1, MOST_MILLIMETRES)) {
            return false;
        }
        if (c.condition != CLEAN && c.condition != BROKEN) {
            return false;
        }
        if (millimetres > 2 + 6 * c.kind) {
            return false;
        }
        c.condition = SHREDDED;
        return true;
    }

    public int paper(int carrier, int personA, int personB) {
        Carrier c = findCarrier(carrier);
        if (c == null || !isPerson(personA) || !isPerson(personB) || personA == personB) {
            return NONE;
        }
        if (c.condition != CLEAN && c.condition != SHREDDED) {
            return NONE;
        }
        if (paperCount >= papers.length) {
            return NONE;
        }
        papers[paperCount] = new Paper(carrier, c, personA, personB);
        paperCount++;
        return paperCount - 1;
    }

    public int at(int paper, int i) {
        Paper p = findPaper(paper);
        if (p == null || i < 0 || i >= p.fields.length) {
            return NONE;
        }
        return p.fields[i];
    }

    public int mark(int paper, long key, int i) {
        Paper p = findPaper(paper);
        if (p == null || !within(i, 0, MARK_BYTES - 1)) {
            return NONE;
        }
        int shift = 8 * (MARK_BYTES - 1 - i);
        return (int) ((p.markBy(key) >>> shift) & LAST_BYTE);
    }

    public boolean check(int paper, long key, long bytes) {
        Paper p = findPaper(paper);
        return p != null && p.markBy(key) == bytes;
    }

    public int listed(long serial) {
        if (!isSerial(serial) || listHasSerial(serial) || listCount >= list.length) {
            return NONE;
        }
        list[listCount] = serial;
        listCount++;
        return listCount;
    }

    public int missing(int k) {
        int before = 0;
        for (int i = 0; i < listCount && i < list.length; i++) {
            if (!carrierHasSerial(list[i])) {
                if (before == k) {
                    return i;
                }
                before++;
            }
        }
        return NONE;
    }

    public int extra(int k) {
        int before = 0;
        for (int i = 0; i < carrierCount; i++) {
            Carrier c = findCarrier(i);
            if (c != null && !listHasSerial(c.serial)) {
                if (before == k) {
                    return i;
                }
                before++;
            }
        }
        return NONE;
    }

    public int lost(int carrier) {
        Carrier c = findCarrier(carrier);
        if (c == null || c.isGone() || lostCount >= lostCarriers.length) {
            return NONE;
        }
        c.condition = LOST;
        lostCarriers[lostCount] = carrier;
        lostCount++;
        return lostCount;
    }

    public int told(int k) {
        if (k < 0 || k >= lostCount || k >= lostCarriers.length) {
            return NONE;
        }
        return lostCarriers[k];
    }

    public int states() {
        int seen = 0;
        for (int i = 0; i < carrierCount; i++) {
            Carrier c = findCarrier(i);
            if (c != null) {
                seen |= 1 << c.condition;
            }
        }
        return Integer.bitCount(seen);
    }

    private Carrier findCarrier(int number) {
        if (number < 0 || number >= carrierCount || number >= carriers.length) {
            return null;
        }
        return carriers[number];
    }

    private Paper findPaper(int number) {
        if (number < 0 || number >= paperCount || number >= papers.length) {
            return null;
        }
        return papers[number];
    }

    private boolean carrierHasSerial(long serial) {
        for (int i = 0; i < carrierCount; i++) {
            Carrier c = findCarrier(i);
            if (c != null && c.serial == serial) {
                return true;
            }
        }
        return false;
    }

    private boolean listHasSerial(long serial) {
        for (int i = 0; i < listCount && i < list.length; i++) {
            if (list[i] == serial) {
                return true;
            }
        }
        return false;
    }

    private static boolean within(int number, int least, int most) {
        return number >= least && number <= most;
    }

    private static boolean isPerson(int person) {
        return within(person, 0, LAST_PERSON);
    }

    private static boolean isSerial(long serial) {
        return serial >= 0 && serial <= LAST_SERIAL;
    }

    private static boolean leadsFrom(int event, int condition) {
        switch (event) {
            case EVENT_HOLD:
                return condition == TAKEN_IN;
            case EVENT_TAKE_BACK:
            case EVENT_START_WIPING:
                return condition == HELD;
            case EVENT_BREAK:
                return within(condition, TAKEN_IN, CLEAN);
            case EVENT_KEEP_CLEAN_ONE:
                return condition == CLEAN;
            default:
                return false;
        }
    }

    private static int leadsTo(int event) {
        switch (event) {
            case EVENT_TAKE_BACK:
                return TAKEN_IN;
            case EVENT_BREAK:
                return BROKEN;
            case EVENT_START_WIPING:
                return WIPING;
            default:
                return HELD;
        }
    }

    private static int patternByte(int pattern, int place, int before) {
        if (pattern == PATTERN_BY_PLACE) {
            return (7 * place + 3) & LAST_BYTE;
        }
        if (pattern == PATTERN_TURNED) {
            return before ^ LAST_BYTE;
        }
        return pattern;
    }

    // Each step's product is a whole multiple of its divisor, and it stays 0 when count exceeds all.
    private static long waysToChoose(int all, int count) {
        long ways = 1;
        for (int i = 0; i < count; i++) {
            ways = ways * (all - i) / (i + 1);
        }
        return ways;
    }

    // Never less than 1, so that callers may divide by it.
    private static long commonDivisor(long a, long b) {
        long x = a;
        long y = b;
        for (int step = 0; step < MOST_DIVISOR_STEPS && y != 0; step++) {
            long rest = x % y;
            x = y;
            y = rest;
        }
        return Math.max(x, 1L);
    }

    private static final class Carrier {
        final int kind;
        final long serial;
        final int[] bytes;
        // What each place should have by the latest pass: kept apart from the bytes, since failed places keep theirs.
        final int[] due;
        final boolean[] worn;
        final boolean[] wasRead;
        final int[] patterns;
        int passCount;
        int readCount;
        int unlikeCount;
        int condition;
        int latestPerson;

        // The caller has looked at places: 1 .. 64.
        Carrier(int kind, long serial, int places) {
            this.kind = kind;
            this.serial = serial;
            bytes = new int[places];
            due = new int[places];
            worn = new boolean[places];
            wasRead = new boolean[places];
            patterns = new int[MOST_PASSES];
            passCount = 0;
            readCount = 0;
            unlikeCount = 0;
            condition = TAKEN_IN;
            latestPerson = NONE;
        }

        boolean hasPlace(int place) {
            return place >= 0 && place < bytes.length;
        }

        boolean isGone() {
            return condition == SHREDDED || condition == LOST;
        }

        boolean wearOut(int place) {
            if (!hasPlace(place) || worn[place]) {
                return false;
            }
            worn[place] = true;
            return true;
        }

        int wornPlace(int k) {
            int before = 0;
            for (int i = 0; i < worn.length; i++) {
                if (worn[i]) {
                    if (before == k) {
                        return i;
                    }
                    before++;
                }
            }
            return NONE;
        }

        void forgetPasses() {
            passCount = 0;
            forgetReads();
        }

        void forgetReads() {
            for (int i = 0; i < wasRead.length; i++) {
                wasRead[i] = false;
            }
            readCount = 0;
            unlikeCount = 0;
        }

        int overwrite(int pattern) {
            if (condition != WIPING || passCount >= patterns.length) {
                return NONE;
            }
            for (int i = 0; i < bytes.length; i++) {
                due[i] = patternByte(pattern, i, bytes[i]);
                if (!worn[i]) {
                    bytes[i] = due[i];
                }
            }
            forgetReads();
            patterns[passCount] = pattern;
            passCount++;
            return passCount;
        }

        int takeReading(int place, int found) {
            if (condition != WIPING || passCount == 0 || !hasPlace(place) || wasRead[place]) {
                return NONE;
            }
            wasRead[place] = true;
            readCount++;
            boolean alike = found == due[place];
            if (!alike) {
                unlikeCount++;
            }
            if (readCount == bytes.length && unlikeCount == 0) {
                condition = CLEAN;
            }
            return alike ? 1 : 0;
        }
    }

    private static final class Paper {
        final int[] fields;

        // A copy, since the carrier goes on changing after its paper was made.
        Paper(int number, Carrier c, int personA, int personB) {
            int passes = Math.max(0, Math.min(c.passCount, c.patterns.length));
            fields = new int[FIELDS_BEFORE_PATTERNS + passes];
            fields[0] = number;
            fields[1] = c.kind;
            fields[2] = personA;
            fields[3] = personB;
            fields[4] = c.condition;
            fields[5] = passes;
            for (int i = 0; i < passes; i++) {
                fields[FIELDS_BEFORE_PATTERNS + i] = c.patterns[i];
            }
        }

        long markBy(long key) {
            long x = key;
            for (int i = 0; i < fields.length; i++) {
                x = (x + fields[i] + 1) * MARK_FACTOR;
                x = x ^ (x >>> 32);
            }
            return x;
        }
    }
}
