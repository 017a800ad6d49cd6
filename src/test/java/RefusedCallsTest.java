/**
 * Every sentence by which a call that could change something is refused, one by one: it answers as told, and the
 * object goes on as if it had not been called.
 */
public final class RefusedCallsTest {
    private static final int[] NO_KINDS = {-1, 4, 256, Integer.MIN_VALUE, Integer.MAX_VALUE};
    private static final long[] NO_SERIALS = {-1L, 1000000000001L, Long.MIN_VALUE, Long.MAX_VALUE, -(1L << 32)};
    private static final int[] NO_PLACE_COUNTS = {0, 65, -1, Integer.MIN_VALUE, Integer.MAX_VALUE};
    private static final int[] NO_CARRIERS = {-1, 9, 10, Integer.MIN_VALUE, Integer.MAX_VALUE};
    private static final int[] NO_PERSONS = {-1, 10, Integer.MIN_VALUE, Integer.MAX_VALUE};
    private static final int[] NO_EVENTS = {-1, 5, Integer.MIN_VALUE, Integer.MAX_VALUE};
    private static final int[] NO_PLACES = {-1, 3, 64, Integer.MIN_VALUE, Integer.MAX_VALUE};
    private static final int[] NO_PATTERNS = {-1, 258, -256, Integer.MIN_VALUE, Integer.MAX_VALUE};
    private static final int[] NO_BYTES = {-1, 256, 256 + 70, 70 - 256, Integer.MIN_VALUE, Integer.MAX_VALUE};
    private static final int[] NO_MILLIMETRES = {0, -1, 101, Integer.MIN_VALUE, Integer.MAX_VALUE};

    public static void main(String[] args) {
        onNewObject();
        carrier();
        eventOfNone();
        eventFromElsewhere();
        fail();
        pass();
        readOfNone();
        readAtWrongTime();
        shred();
        paperOfNone();
        paperAtWrongTime();
        listed();
        lost();
        Due.end();
    }

    private static void onNewObject() {
        Twins.denies("4: new object", WipePapers::new, x -> x.event(0, 0, 0));
        Twins.denies("6: new object", WipePapers::new, x -> x.fail(0, 0));
        Twins.refuses("8: new object", WipePapers::new, x -> x.pass(0, 0));
        Twins.refuses("10: new object", WipePapers::new, x -> x.read(0, 0, 0));
        Twins.denies("13: new object", WipePapers::new, x -> x.shred(0, 1));
        Twins.refuses("14: new object", WipePapers::new, x -> x.paper(0, 0, 1));
        Twins.refuses("21: new object", WipePapers::new, x -> x.lost(0));
    }

    private static void carrier() {
        Twins.refuses("2: there are 10", Made::fullOfCarriers, x -> x.carrier(0, 99L, 1));
        for (int kind : NO_KINDS) {
            Twins.refuses("2: kind " + kind, Made::mixed, x -> x.carrier(kind, 99L, 1));
        }
        for (long serial : NO_SERIALS) {
            Twins.refuses("2: serial " + serial, Made::mixed, x -> x.carrier(0, serial, 1));
        }
        for (int places : NO_PLACE_COUNTS) {
            Twins.refuses("2: places " + places, Made::mixed, x -> x.carrier(0, 99L, places));
        }
        for (int had = 0; had < 9; had++) {
            int serial = had;
            Twins.refuses("2: carrier " + had + " has the serial", Made::mixed, x -> x.carrier(0, serial, 1));
        }
    }

    private static void eventOfNone() {
        for (int carrier : NO_CARRIERS) {
            for (int event = 0; event < 5; event++) {
                int e = event;
                Twins.denies("4: carrier " + carrier, Made::mixed, x -> x.event(carrier, e, 1));
            }
        }
        for (int event : NO_EVENTS) {
            for (int carrier = 0; carrier < 9; carrier++) {
                int c = carrier;
                Twins.denies("4: event " + event, Made::mixed, x -> x.event(c, event, 1));
            }
        }
        // Each of these would lead from the carrier's state.
        int[][] ways = {{0, 0}, {1, 1}, {2, 2}, {1, 3}, {3, 4}, {8, 2}};
        for (int person : NO_PERSONS) {
            for (int[] way : ways) {
                Twins.denies("4: person " + person, Made::mixed, x -> x.event(way[0], way[1], person));
            }
        }
    }

    private static void eventFromElsewhere() {
        boolean[][] leads = {
            {true, false, false, false, false, false, false},
            {false, true, false, false, false, false, false},
            {true, true, true, true, false, false, false},
            {false, true, false, false, false, false, false},
            {false, false, false, true, false, false, false}
        };
        for (int event = 0; event < 5; event++) {
            for (int state = 0; state <= 6; state++) {
                if (!leads[event][state]) {
                    eventRefusedIn(event, state);
                }
            }
        }
    }

    private static void eventRefusedIn(int event, int state) {
        for (int carrier : Made.mixedIn(state)) {
            String sentence = "4: event " + event + " does not lead from state " + state;
            Twins.denies(sentence, Made::mixed, x -> x.event(carrier, event, 7));
        }
    }

    private static void fail() {
        for (int carrier : NO_CARRIERS) {
            Twins.denies("6: carrier " + carrier, Made::mixed, x -> x.fail(carrier, 0));
        }
        for (int place : NO_PLACES) {
            Twins.denies("6: place " + place, Made::mixed, x -> x.fail(2, place));
        }
        Twins.denies("6: it failed already, held", Made::mixed, x -> x.fail(1, 2));
        Twins.denies("6: it failed already, wiping", Made::mixed, x -> x.fail(2, 1));
        Twins.denies("6: shredded", Made::mixed, x -> x.fail(5, 0));
        Twins.denies("6: lost", Made::mixed, x -> x.fail(6, 0));
    }

    private static void pass() {
        for (int carrier : NO_CARRIERS) {
            Twins.refuses("8: carrier " + carrier, Made::mixed, x -> x.pass(carrier, 1));
        }
        for (int pattern : NO_PATTERNS) {
            Twins.refuses("8: pattern " + pattern, Made::mixed, x -> x.pass(2, pattern));
            Twins.refuses("8: pattern " + pattern + " first", Made::mixed, x -> x.pass(7, pattern));
        }
        for (int pattern : new int[] {0, 25, 255, 256, 257}) {
            for (int carrier : new int[] {0, 1, 3, 4, 5, 6}) {
                Twins.refuses("8: not wiping, carrier " + carrier, Made::mixed, x -> x.pass(carrier, pattern));
            }
            Twins.refuses("8: it has 6", Made::mixed, x -> x.pass(8, pattern));
        }
    }

    private static void readOfNone() {
        for (int carrier : NO_CARRIERS) {
            Twins.refuses("10: carrier " + carrier, Made::mixed, x -> x.read(carrier, 0, 70));
        }
        for (int place : NO_PLACES) {
            Twins.refuses("10: place " + place, Made::mixed, x -> x.read(2, place, 70));
        }
        for (int b : NO_BYTES) {
            Twins.refuses("10: byte " + b, Made::mixed, x -> x.read(2, 2, b));
        }
    }

    private static void readAtWrongTime() {
        for (int b : new int[] {0, 11, 12, 14, 255}) {
            for (int carrier : new int[] {0, 1, 3, 4, 5, 6}) {
                Twins.refuses("10: not wiping, carrier " + carrier, Made::mixed, x -> x.read(carrier, 0, b));
            }
            Twins.refuses("10: no pass", Made::mixed, x -> x.read(7, 0, b));
        }
        for (int b : new int[] {0, 25, 70, 71}) {
            Twins.refuses("10: read already, alike", Made::mixed, x -> x.read(2, 0, b));
            Twins.refuses("10: read already, unlike", Made::mixed, x -> x.read(2, 1, b));
            Twins.refuses("10: read already, none unlike so far", Made::mixed, x -> x.read(8, 1, b));
        }
    }

    private static void shred() {
        for (int carrier : NO_CARRIERS) {
            Twins.denies("13: carrier " + carrier, Made::mixed, x -> x.shred(carrier, 1));
        }
        for (int millimetres : NO_MILLIMETRES) {
            Twins.denies("13: clean, " + millimetres, Made::mixed, x -> x.shred(3, millimetres));
            Twins.denies("13: broken, " + millimetres, Made::mixed, x -> x.shred(4, millimetres));
        }
        for (int carrier : new int[] {0, 1, 2, 5, 6, 7, 8}) {
            Twins.denies("13: neither, carrier " + carrier, Made::mixed, x -> x.shred(carrier, 1));
        }
        Twins.denies("13: kind 3, 21 are greater", Made::mixed, x -> x.shred(3, 21));
        Twins.denies("13: kind 3, 100 are greater", Made::mixed, x -> x.shred(3, 100));
        Twins.denies("13: kind 0, 3 are greater", Made::mixed, x -> x.shred(4, 3));
    }

    private static void paperOfNone() {
        for (int carrier : NO_CARRIERS) {
            Twins.refuses("14: carrier " + carrier, Made::mixed, x -> x.paper(carrier, 1, 2));
        }
        for (int person : NO_PERSONS) {
            Twins.refuses("14: first person " + person, Made::mixed, x -> x.paper(3, person, 2));
            Twins.refuses("14: second person " + person, Made::mixed, x -> x.paper(5, 1, person));
            Twins.refuses("14: both persons " + person, Made::mixed, x -> x.paper(5, person, person));
        }
    }

    private static void paperAtWrongTime() {
        for (int carrier : new int[] {0, 1, 2, 4, 6, 7, 8}) {
            Twins.refuses("14: neither, carrier " + carrier, Made::mixed, x -> x.paper(carrier, 1, 2));
        }
        for (int person = 0; person <= 9; person++) {
            int same = person;
            Twins.refuses("14: both are " + person, Made::mixed, x -> x.paper(3, same, same));
        }
        Twins.refuses("14: there are 20, clean", Made::fullOfPapers, x -> x.paper(3, 1, 2));
        Twins.refuses("14: there are 20, shredded", Made::fullOfPapers, x -> x.paper(5, 1, 2));
    }

    private static void listed() {
        for (long serial : NO_SERIALS) {
            Twins.refuses("18: serial " + serial, Made::mixed, x -> x.listed(serial));
            Twins.refuses("18: serial " + serial + " first", WipePapers::new, x -> x.listed(serial));
        }
        for (long serial : new long[] {0L, 5L, 6L, 15L}) {
            Twins.refuses("18: there already " + serial, Made::mixed, x -> x.listed(serial));
        }
        Twins.refuses("18: there are 20", Made::fullOfListed, x -> x.listed(99L));
        Twins.refuses("18: there are 20, a carrier's", Made::fullOfListed, x -> x.listed(3L));
        Twins.refuses("18: there are 20, there already", Made::fullOfListed, x -> x.listed(15L));
    }

    private static void lost() {
        for (int carrier : NO_CARRIERS) {
            Twins.refuses("21: carrier " + carrier, Made::mixed, x -> x.lost(carrier));
        }
        Twins.refuses("21: shredded", Made::mixed, x -> x.lost(5));
        Twins.refuses("21: lost", Made::mixed, x -> x.lost(6));
    }
}
