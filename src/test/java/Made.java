/** Objects brought to a told point, so that each test begins where its promise is about. */
final class Made {
    static final int TAKEN_IN = 0;
    static final int HELD = 1;
    static final int WIPING = 2;
    static final int CLEAN = 3;
    static final int BROKEN = 4;
    static final int SHREDDED = 5;
    static final int LOST = 6;

    /** Numbers that no carrier, place, person, paper or k can have. */
    static final int[] FAR_OFF = {-1, -2, Integer.MIN_VALUE, Integer.MAX_VALUE, 64, 1 << 20};

    private Made() {
    }

    /** One carrier, number 0, of a kind, with serial 7, in a state; a clean one has a pass of 9. */
    static WipePapers inState(int state, int kind, int places) {
        WipePapers x = new WipePapers();
        x.carrier(kind, 7L, places);
        if (state == HELD || state == WIPING || state == CLEAN) {
            x.event(0, 0, 1);
        }
        if (state == WIPING || state == CLEAN) {
            x.event(0, 3, 1);
        }
        if (state == CLEAN) {
            wipe(x, 0, places, 9);
        }
        if (state == BROKEN || state == SHREDDED) {
            x.event(0, 2, 1);
        }
        if (state == SHREDDED) {
            x.shred(0, 1);
        }
        if (state == LOST) {
            x.lost(0);
        }
        Due.is("the state made", x.state(0), state);
        return x;
    }

    /** A pass over a wiping carrier and a reading of every place as it should be. */
    static void wipe(WipePapers x, int carrier, int places, int pattern) {
        x.pass(carrier, pattern);
        for (int i = 0; i < places; i++) {
            x.read(carrier, i, pattern);
        }
    }

    /**
     * Nine carriers in every state, with passes, reads and failed places: 0 taken in, 1 held, 2 wiping (two passes;
     * place 0 read alike, 1 unlike, 2 not yet), 3 clean, 4 broken behind a pass, 5 shredded, 6 lost, 7 wiping without
     * a pass, 8 wiping with six. A carrier's serial is its number; 0, 5, 6 and 15 are listed, 3 and 5 have papers.
     */
    static WipePapers mixed() {
        WipePapers x = new WipePapers();
        for (int i = 0; i < 9; i++) {
            x.carrier(i % 4, i, 3);
            if (i >= 1 && i != 6) {
                x.event(i, 0, i);
            }
            if (i >= 2 && i != 6) {
                x.event(i, 3, i);
            }
        }
        x.fail(1, 2);
        x.fail(2, 1);
        x.pass(2, 256);
        x.pass(2, 70);
        x.read(2, 0, 70);
        x.read(2, 1, 0);
        wipe(x, 3, 3, 11);
        x.pass(4, 12);
        x.read(4, 2, 13);
        x.event(4, 2, 4);
        wipe(x, 5, 3, 14);
        x.shred(5, 1);
        x.lost(6);
        for (int i = 0; i < 6; i++) {
            x.pass(8, 20 + i);
        }
        x.read(8, 1, 25);
        for (long serial : new long[] {0L, 5L, 6L, 15L}) {
            x.listed(serial);
        }
        x.paper(3, 1, 2);
        x.paper(5, 9, 0);
        return x;
    }

    /** The carriers of mixed() in a state, by numbers. */
    static int[] mixedIn(int state) {
        return state == WIPING ? new int[] {2, 7, 8} : new int[] {state};
    }

    /** mixed() with a tenth carrier, held, of serial 9. */
    static WipePapers fullOfCarriers() {
        WipePapers x = mixed();
        x.carrier(3, 9L, 3);
        x.event(9, 0, 9);
        return x;
    }

    /** mixed() with twenty papers, all but the first two of carrier 3. */
    static WipePapers fullOfPapers() {
        WipePapers x = mixed();
        for (int i = 2; i < 20; i++) {
            x.paper(3, i % 9, 9);
        }
        return x;
    }

    /** mixed() with twenty serials on the list. */
    static WipePapers fullOfListed() {
        WipePapers x = mixed();
        for (int i = 4; i < 20; i++) {
            x.listed(100L + i);
        }
        return x;
    }
}
