/** Objects brought to a told point, so that each test begins where its promise is about. */
final class Made {
    static final int TAKEN_IN = 0;
    static final int HELD = 1;
    static final int WIPING = 2;
    static final int CLEAN = 3;
    static final int BROKEN = 4;
    static final int SHREDDED = 5;
    static final int LOST = 6;

    /** Numbers that no carrier, place, person, paper or k can have. */
    static final int[] FAR_OFF = {-1, -2, Integer.MIN_VALUE, Integer.MAX_VALUE, 64, 1 << 20};

    private Made() {
    }

    /** One carrier, number 0, of a kind, with serial 7, in a state; a clean one has a pass of 9. */
    static WipePapers inState(int state, int kind, int places) {
        WipePapers x = new WipePapers();
        x.carrier(kind, 7L, places);
        if (state == HELD || state == WIPING || state == CLEAN) {
            x.event(0, 0, 1);
        }
        if (state == WIPING || state == CLEAN) {
            x.event(0, 3, 1);
        }
        if (state == CLEAN) {
            wipe(x, 0, places, 9);
        }
        if (state == BROKEN || state == SHREDDED) {
            x.event(0, 2, 1);
        }
        if (state == SHREDDED) {
            x.shred(0, 1);
        }
        if (state == LOST) {
            x.lost(0);
        }
        Due.is("the state made", x.state(0), state);
        return x;
    }

    /** A pass over a wiping carrier and a reading of every place as it should be. */
    static void wipe(WipePapers x, int carrier, int places, int pattern) {
        x.pass(carrier, pattern);
        for (int i = 0; i < places; i++) {
            x.read(carrier, i, pattern);
        }
    }
}
