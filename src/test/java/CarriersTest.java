/** Promises 1 to 5 and 21 to 23: carriers, their states and events, what is lost. */
public final class CarriersTest {
    private static final int NO = -1;
    /** The state to which an event (row) leads from a state (column), or NO. */
    private static final int[][] WAYS = {
        {1, NO, NO, NO, NO, NO, NO},
        {NO, 0, NO, NO, NO, NO, NO},
        {4, 4, 4, 4, NO, NO, NO},
        {NO, 2, NO, NO, NO, NO, NO},
        {NO, NO, NO, 1, NO, NO, NO}
    };

    public static void main(String[] args) {
        newObject();
        objectsApart();
        carrierEdges();
        everyPlaceCount();
        everyKind();
        carrierRefusals();
        serialHadInEachState();
        carrierLimit();
        stateOfNone();
        eventWays();
        eventRefusals();
        latestPerson();
        lostFromEachState();
        toldInOrder();
        toldSkipsTheRefused();
        differentStates();
        oneOfEachStateAlone();
        Due.end();
    }

    private static void newObject() {
        WipePapers x = new WipePapers();
        Due.none("1: state(0)", x.state(0));
        Due.none("1: last(0)", x.last(0));
        Due.none("1: unlike(0)", x.unlike(0));
        Due.none("1: failed(0, 0)", x.failed(0, 0));
        Due.none("1: byteAt(0, 0)", x.byteAt(0, 0));
        Due.none("1: pass(0, 0)", x.pass(0, 0));
        Due.none("1: read(0, 0, 0)", x.read(0, 0, 0));
        Due.none("1: at(0, 0)", x.at(0, 0));
        Due.none("1: mark(0, 0, 0)", x.mark(0, 0L, 0));
        Due.no("1: check(0, 0, 0)", x.check(0, 0L, 0L));
        Due.none("1: missing(0)", x.missing(0));
        Due.none("1: extra(0)", x.extra(0));
        Due.none("1: told(0)", x.told(0));
        Due.is("1: states()", x.states(), 0);
        Due.no("1: event(0, 0, 0)", x.event(0, 0, 0));
        Due.no("1: fail(0, 0)", x.fail(0, 0));
        Due.no("1: shred(0, 1)", x.shred(0, 1));
        Due.none("1: paper(0, 1, 2)", x.paper(0, 1, 2));
        Due.none("1: lost(0)", x.lost(0));
    }

    private static void objectsApart() {
        WipePapers x = Made.inState(Made.CLEAN, 0, 1);
        x.paper(0, 1, 2);
        x.listed(3L);
        WipePapers y = new WipePapers();
        Due.none("1: state(0) of another object", y.state(0));
        Due.none("1: at(0, 0) of another object", y.at(0, 0));
        Due.is("1: listed(3) of another object", y.listed(3L), 1);
    }

    private static void carrierEdges() {
        WipePapers x = new WipePapers();
        Due.is("2: carrier(0, 0, 1)", x.carrier(0, 0L, 1), 0);
        Due.is("2: carrier(3, 10^12, 64)", x.carrier(3, 1000000000000L, 64), 1);
        Due.is("2: its first place", x.byteAt(0, 0), 0);
        Due.none("2: no second place", x.byteAt(0, 1));
        Due.is("2: its 64th place", x.byteAt(1, 63), 0);
        Due.none("2: no 65th place", x.byteAt(1, 64));
        Due.is("2: state(1)", x.state(1), Made.TAKEN_IN);
        Due.none("2: no fail at first", x.failed(1, 0));
    }

    private static void everyPlaceCount() {
        for (int places = 1; places <= 64; places++) {
            WipePapers x = new WipePapers();
            Due.is("2: " + places + " places", x.carrier(0, places, places), 0);
            for (int i = 0; i < places; i++) {
                Due.is("2: place " + i + " of " + places, x.byteAt(0, i), 0);
            }
            Due.none("2: behind the last of " + places, x.byteAt(0, places));
            Due.none("2: before the first of " + places, x.byteAt(0, -1));
        }
    }

    private static void everyKind() {
        WipePapers x = new WipePapers();
        for (int kind = 0; kind <= 3; kind++) {
            Due.is("2: kind " + kind, x.carrier(kind, kind, 1), kind);
            Due.is("2: is taken in", x.state(kind), Made.TAKEN_IN);
            x.event(kind, 2, 0);
            x.shred(kind, 1);
            x.paper(kind, 0, 1);
            Due.is("2: it has its kind", x.at(kind, 1), kind);
        }
    }

    private static void serialHadInEachState() {
        for (int state = 0; state <= 6; state++) {
            WipePapers x = Made.inState(state, 1, 2);
            Due.none("2: one in state " + state + " has the serial", x.carrier(0, 7L, 1));
            Due.is("2: the next serial is free", x.carrier(0, 8L, 1), 1);
            Due.none("2: now it is had", x.carrier(0, 8L, 1));
            Due.is("2: the one before is free", x.carrier(0, 6L, 1), 2);
        }
    }

    private static void carrierRefusals() {
        WipePapers x = new WipePapers();
        Due.none("2: kind -1", x.carrier(-1, 1L, 1));
        Due.none("2: kind 4", x.carrier(4, 1L, 1));
        Due.none("2: least kind", x.carrier(Integer.MIN_VALUE, 1L, 1));
        Due.none("2: serial -1", x.carrier(0, -1L, 1));
        Due.none("2: serial 10^12 + 1", x.carrier(0, 1000000000001L, 1));
        Due.none("2: greatest serial", x.carrier(0, Long.MAX_VALUE, 1));
        Due.none("2: least serial", x.carrier(0, Long.MIN_VALUE, 1));
        Due.none("2: no places", x.carrier(0, 1L, 0));
        Due.none("2: 65 places", x.carrier(0, 1L, 65));
        Due.none("2: least places", x.carrier(0, 1L, Integer.MIN_VALUE));
        Due.none("2: greatest places", x.carrier(0, 1L, Integer.MAX_VALUE));
        Due.none("2: nothing was made", x.state(0));
        Due.is("2: carrier(2, 1, 1)", x.carrier(2, 1L, 1), 0);
        Due.none("2: the serial is had", x.carrier(2, 1L, 1));
        x.lost(0);
        Due.none("2: a lost one has its serial", x.carrier(2, 1L, 1));
        Due.is("2: a serial 2^32 higher is another", x.carrier(2, 1L + (1L << 32), 1), 1);
        x.listed(9L);
        Due.is("2: a listed serial is not had", x.carrier(2, 9L, 1), 2);
    }

    private static void carrierLimit() {
        WipePapers x = new WipePapers();
        for (int i = 0; i < 10; i++) {
            Due.is("2: carrier " + i, x.carrier(i % 4, i, 1), i);
        }
        Due.none("2: an 11th", x.carrier(0, 10L, 1));
        Due.none("2: state(10)", x.state(10));
        Due.is("2: state(9)", x.state(9), Made.TAKEN_IN);
    }

    private static void stateOfNone() {
        for (int state = 0; state <= 6; state++) {
            WipePapers x = Made.inState(state, 1, 2);
            Due.is("3: state(0)", x.state(0), state);
            Due.none("3: state(1)", x.state(1));
            for (int far : Made.FAR_OFF) {
                Due.none("3: state(" + far + ")", x.state(far));
            }
        }
    }

    private static void eventWays() {
        for (int event = 0; event < WAYS.length; event++) {
            for (int state = 0; state <= 6; state++) {
                WipePapers x = Made.inState(state, 1, 2);
                String call = "4: event " + event + " in state " + state;
                int before = x.last(0);
                int to = WAYS[event][state];
                Due.is(call, x.event(0, event, 5) ? 1 : 0, to == NO ? 0 : 1);
                Due.is(call + ", then state", x.state(0), to == NO ? state : to);
                Due.is(call + ", then last", x.last(0), to == NO ? before : 5);
            }
        }
    }

    private static void eventRefusals() {
        WipePapers x = Made.inState(Made.TAKEN_IN, 1, 2);
        x.carrier(1, 8L, 2);
        for (int far : Made.FAR_OFF) {
            Due.no("4: carrier " + far, x.event(far, 0, 0));
            Due.no("4: event " + far, x.event(0, far, 0));
            Due.no("4: person " + far, x.event(0, 0, far));
        }
        Due.no("4: carrier 2 of two", x.event(2, 0, 0));
        Due.no("4: event 5", x.event(0, 5, 0));
        Due.no("4: person 10", x.event(0, 0, 10));
        Due.is("4: state(0) is as before", x.state(0), Made.TAKEN_IN);
        Due.yes("4: person 0", x.event(0, 0, 0));
        Due.yes("4: person 9", x.event(0, 1, 9));
        Due.is("4: another one's state is as before", x.state(1), Made.TAKEN_IN);
    }

    private static void latestPerson() {
        WipePapers x = new WipePapers();
        x.carrier(0, 1L, 1);
        x.carrier(0, 2L, 1);
        Due.none("5: no event yet", x.last(0));
        x.event(0, 0, 4);
        Due.is("5: last(0)", x.last(0), 4);
        x.event(0, 3, 0);
        Due.is("5: person 0 is one", x.last(0), 0);
        Made.wipe(x, 0, 1, 8);
        Due.is("5: becoming clean is no event", x.last(0), 0);
        Due.none("5: another one's", x.last(1));
        x.shred(0, 1);
        Due.is("5: shredding is no event", x.last(0), 0);
        x.event(1, 2, 6);
        x.lost(1);
        Due.is("5: losing is no event", x.last(1), 6);
        Due.none("5: last(2)", x.last(2));
        for (int far : Made.FAR_OFF) {
            Due.none("5: last(" + far + ")", x.last(far));
        }
    }

    private static void lostFromEachState() {
        for (int state = 0; state <= 6; state++) {
            WipePapers x = Made.inState(state, 1, 2);
            boolean refused = state == Made.SHREDDED || state == Made.LOST;
            Due.is("21: lost in state " + state, x.lost(0), refused ? WipePapers.NONE : 1);
            Due.is("21: then state", x.state(0), refused ? state : Made.LOST);
            Due.is("21: then told(0)", x.told(0), state == Made.SHREDDED ? WipePapers.NONE : 0);
            Due.none("21: then told(1)", x.told(1));
            Due.none("21: lost(1)", x.lost(1));
            for (int far : Made.FAR_OFF) {
                Due.none("21: lost(" + far + ")", x.lost(far));
            }
        }
    }

    private static void toldInOrder() {
        WipePapers x = new WipePapers();
        int[] order = {3, 9, 0, 1, 8, 2, 7, 4, 6, 5};
        for (int i = 0; i < 10; i++) {
            x.carrier(0, i, 1);
        }
        for (int i = 0; i < 10; i++) {
            Due.none("22: told(" + i + ") before", x.told(i));
            Due.is("21: lost(" + order[i] + ")", x.lost(order[i]), i + 1);
        }
        for (int i = 0; i < 10; i++) {
            Due.is("22: told(" + i + ")", x.told(i), order[i]);
        }
        Due.none("22: told(10)", x.told(10));
        for (int far : Made.FAR_OFF) {
            Due.none("22: told(" + far + ")", x.told(far));
        }
    }

    private static void toldSkipsTheRefused() {
        WipePapers x = new WipePapers();
        for (int i = 0; i < 3; i++) {
            x.carrier(0, i, 1);
        }
        x.event(1, 2, 0);
        x.shred(1, 1);
        Due.is("21: the first", x.lost(2), 1);
        Due.none("21: again", x.lost(2));
        Due.none("21: a shredded one", x.lost(1));
        Due.is("21: the second", x.lost(0), 2);
        Due.is("22: told(0)", x.told(0), 2);
        Due.is("22: told(1)", x.told(1), 0);
        Due.none("22: told(2)", x.told(2));
    }

    private static void oneOfEachStateAlone() {
        for (int state = 0; state <= 6; state++) {
            Due.is("23: one in state " + state, Made.inState(state, 1, 2).states(), 1);
        }
    }

    private static void differentStates() {
        WipePapers x = new WipePapers();
        for (int i = 0; i < 8; i++) {
            x.carrier(0, i, 1);
            Due.is("23: all are taken in", x.states(), 1);
        }
        for (int i = 1; i <= 3; i++) {
            x.event(i, 0, 1);
        }
        Due.is("23: held too", x.states(), 2);
        x.event(2, 3, 1);
        Due.is("23: wiping too", x.states(), 3);
        x.event(3, 3, 1);
        Due.is("23: two are wiping", x.states(), 3);
        Made.wipe(x, 3, 1, 5);
        Due.is("23: clean too", x.states(), 4);
        x.event(4, 2, 1);
        Due.is("23: broken too", x.states(), 5);
        x.event(5, 2, 1);
        x.shred(5, 1);
        Due.is("23: shredded too", x.states(), 6);
        x.lost(6);
        Due.is("23: lost too", x.states(), 7);
        x.lost(1);
        Due.is("23: none is held", x.states(), 6);
    }
}
