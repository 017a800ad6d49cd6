/** Promises 6 to 11: places that fail, passes of patterns, reading back. */
public final class WipingTest {
    public static void main(String[] args) {
        failInEachState();
        failRefusals();
        failedByNumbers();
        allPlacesFail();
        everyPattern();
        placesWhereThePatternWraps();
        passInEachState();
        passRefusals();
        passLimitEachTime();
        failedPlacesKeepTheirs();
        turnedBytes();
        everyByteTurned();
        byteAtInEachState();
        readAnswers();
        everyByteRead();
        readRefusals();
        readInEachState();
        readOfFailedPlaces();
        failBehindThePass();
        cleanWhenAllWereRead();
        oneUnlikeKeepsItWiping();
        onePlaceIsAll();
        noPassesTheNextTime();
        unlikeCounts();
        allUnlike();
        Due.end();
    }

    private static void failInEachState() {
        for (int state = 0; state <= 6; state++) {
            WipePapers x = Made.inState(state, 1, 2);
            boolean refused = state == Made.SHREDDED || state == Made.LOST;
            Due.is("6: fail in state " + state, x.fail(0, 1) ? 1 : 0, refused ? 0 : 1);
            Due.is("6: then failed(0, 0)", x.failed(0, 0), refused ? WipePapers.NONE : 1);
            Due.is("6: then state", x.state(0), state);
        }
    }

    private static void failRefusals() {
        WipePapers x = Made.inState(Made.HELD, 1, 64);
        Due.yes("6: place 0", x.fail(0, 0));
        Due.yes("6: place 63", x.fail(0, 63));
        Due.no("6: it failed already", x.fail(0, 0));
        Due.no("6: place 64", x.fail(0, 64));
        Due.no("6: carrier 1", x.fail(1, 1));
        for (int far : Made.FAR_OFF) {
            Due.no("6: carrier " + far, x.fail(far, 1));
            Due.no("6: place " + far, x.fail(0, far));
        }
        x.carrier(0, 8L, 3);
        Due.no("6: a place that only another one has", x.fail(1, 3));
        Due.yes("6: another one's place 0", x.fail(1, 0));
    }

    private static void failedByNumbers() {
        WipePapers x = Made.inState(Made.HELD, 1, 64);
        x.carrier(0, 8L, 3);
        x.fail(0, 63);
        x.fail(0, 0);
        x.fail(0, 20);
        Due.is("7: failed(0, 0)", x.failed(0, 0), 0);
        Due.is("7: failed(0, 1)", x.failed(0, 1), 20);
        Due.is("7: failed(0, 2)", x.failed(0, 2), 63);
        Due.none("7: failed(0, 3)", x.failed(0, 3));
        Due.none("7: another one's", x.failed(1, 0));
        Due.none("7: carrier 2", x.failed(2, 0));
        for (int far : Made.FAR_OFF) {
            Due.none("7: carrier " + far, x.failed(far, 0));
            Due.none("7: k " + far, x.failed(0, far));
        }
        x.event(0, 3, 1);
        Due.is("7: wiping mends none", x.failed(0, 1), 20);
        x.lost(0);
        Due.is("7: of a lost one", x.failed(0, 2), 63);
    }

    private static void allPlacesFail() {
        WipePapers x = Made.inState(Made.WIPING, 1, 64);
        for (int i = 63; i >= 0; i--) {
            Due.yes("6: place " + i, x.fail(0, i));
            Due.no("6: place " + i + " again", x.fail(0, i));
        }
        for (int k = 0; k < 64; k++) {
            Due.is("7: failed(0, " + k + ")", x.failed(0, k), k);
        }
        Due.none("7: failed(0, 64)", x.failed(0, 64));
        Due.is("8: a pass over failed places only", x.pass(0, 33), 1);
        for (int i = 0; i < 64; i++) {
            Due.is("8: failed place " + i + " keeps its byte", x.byteAt(0, i), 0);
            Due.is("10: should have the pattern's", x.read(0, i, 33), 1);
        }
        Due.is("10: clean, though all failed", x.state(0), Made.CLEAN);
    }

    /** Place 36 gets 7 * 36 + 3 = 255, place 37 what 262 leaves. */
    private static void placesWhereThePatternWraps() {
        WipePapers x = Made.inState(Made.WIPING, 1, 64);
        x.pass(0, 256);
        Due.is("8: place 0", x.byteAt(0, 0), 3);
        Due.is("8: place 36", x.byteAt(0, 36), 255);
        Due.is("8: place 37", x.byteAt(0, 37), 6);
        Due.is("8: place 63", x.byteAt(0, 63), 188);
        Due.is("10: place 36", x.read(0, 36, 255), 1);
        Due.is("10: place 37", x.read(0, 37, 6), 1);
        Due.none("10: 444 is no byte", x.read(0, 63, 444));
        Due.is("10: place 63", x.read(0, 63, 188), 1);
    }

    private static void everyPattern() {
        for (int pattern = 0; pattern <= 255; pattern++) {
            WipePapers x = Made.inState(Made.WIPING, 1, 2);
            Due.is("8: pass(0, " + pattern + ")", x.pass(0, pattern), 1);
            Due.is("8: then byteAt(0, 0)", x.byteAt(0, 0), pattern);
            Due.is("8: then byteAt(0, 1)", x.byteAt(0, 1), pattern);
        }
        WipePapers x = Made.inState(Made.WIPING, 1, 64);
        Due.is("8: pass(0, 256)", x.pass(0, 256), 1);
        for (int i = 0; i < 64; i++) {
            Due.is("8: then byteAt(0, " + i + ")", x.byteAt(0, i), (7 * i + 3) % 256);
        }
        Due.is("8: pass(0, 257)", x.pass(0, 257), 2);
        for (int i = 0; i < 64; i++) {
            Due.is("8: turned, byteAt(0, " + i + ")", x.byteAt(0, i), 255 - (7 * i + 3) % 256);
        }
    }

    private static void passInEachState() {
        for (int state = 0; state <= 6; state++) {
            WipePapers x = Made.inState(state, 1, 2);
            int before = x.byteAt(0, 1);
            boolean wiping = state == Made.WIPING;
            Due.is("8: pass in state " + state, x.pass(0, 3), wiping ? 1 : WipePapers.NONE);
            Due.is("8: then byteAt", x.byteAt(0, 1), wiping ? 3 : before);
            Due.is("8: then state", x.state(0), state);
        }
    }

    private static void passRefusals() {
        WipePapers x = Made.inState(Made.WIPING, 1, 2);
        Due.none("8: pattern 258", x.pass(0, 258));
        Due.none("8: carrier 1", x.pass(1, 0));
        for (int far : Made.FAR_OFF) {
            Due.none("8: carrier " + far, x.pass(far, 0));
        }
        for (int far : new int[] {-1, -256, Integer.MIN_VALUE, Integer.MAX_VALUE}) {
            Due.none("8: pattern " + far, x.pass(0, far));
        }
        Due.is("8: none of these was one", x.pass(0, 5), 1);
    }

    private static void passLimitEachTime() {
        WipePapers x = Made.inState(Made.WIPING, 1, 1);
        for (int i = 1; i <= 6; i++) {
            Due.is("8: pass " + i, x.pass(0, 10 + i), i);
        }
        x.read(0, 0, 0);
        Due.none("8: a seventh", x.pass(0, 17));
        Due.is("8: the byte is as before", x.byteAt(0, 0), 16);
        Due.is("8: the reads are as before", x.unlike(0), 1);
        WipePapers y = Made.inState(Made.CLEAN, 1, 1);
        y.event(0, 4, 1);
        y.event(0, 3, 1);
        for (int i = 1; i <= 6; i++) {
            Due.is("8: pass " + i + " the next time", y.pass(0, 20 + i), i);
        }
        Due.none("8: a seventh the next time", y.pass(0, 27));
    }

    private static void failedPlacesKeepTheirs() {
        WipePapers x = Made.inState(Made.WIPING, 1, 3);
        x.fail(0, 0);
        x.pass(0, 100);
        x.fail(0, 1);
        x.pass(0, 256);
        Due.is("8: failed before the first pass", x.byteAt(0, 0), 0);
        Due.is("8: failed between", x.byteAt(0, 1), 100);
        Due.is("8: not failed", x.byteAt(0, 2), 17);
        x.pass(0, 257);
        Due.is("8: failed, not turned", x.byteAt(0, 1), 100);
        Due.is("8: not failed, turned", x.byteAt(0, 2), 238);
    }

    private static void turnedBytes() {
        WipePapers x = Made.inState(Made.WIPING, 1, 1);
        x.pass(0, 257);
        Due.is("8: 0 turned", x.byteAt(0, 0), 255);
        x.pass(0, 257);
        Due.is("8: 255 turned", x.byteAt(0, 0), 0);
        x.pass(0, 0x5A);
        x.pass(0, 257);
        Due.is("8: 0x5A turned", x.byteAt(0, 0), 0xA5);
    }

    private static void everyByteTurned() {
        for (int b = 0; b <= 255; b++) {
            WipePapers x = Made.inState(Made.WIPING, 1, 2);
            x.pass(0, b);
            x.fail(0, 1);
            x.pass(0, 257);
            Due.is("8: " + b + " turned", x.byteAt(0, 0), 255 - b);
            Due.is("8: " + b + " of a failed place", x.byteAt(0, 1), b);
            x.pass(0, 257);
            Due.is("8: " + b + " turned twice", x.byteAt(0, 0), b);
            Due.is("10: turned twice", x.read(0, 0, b), 1);
            Due.is("10: a failed place's, from its own byte", x.read(0, 1, 255 - b), 1);
        }
    }

    private static void everyByteRead() {
        for (int b = 0; b <= 255; b++) {
            WipePapers x = Made.inState(Made.WIPING, 1, 3);
            x.pass(0, b);
            Due.is("10: " + b + " as it should be", x.read(0, 0, b), 1);
            Due.is("10: unlike " + b, x.read(0, 1, (b + 1) % 256), 0);
            Due.is("10: unlike " + b + " too", x.read(0, 2, (b + 255) % 256), 0);
            Due.is("11: of " + b, x.unlike(0), 2);
        }
    }

    private static void byteAtInEachState() {
        for (int state = 0; state <= 6; state++) {
            WipePapers x = Made.inState(state, 1, 2);
            int want = state == Made.CLEAN ? 9 : 0;
            boolean gone = state == Made.SHREDDED || state == Made.LOST;
            Due.is("9: byteAt in state " + state, x.byteAt(0, 1), gone ? WipePapers.NONE : want);
            Due.none("9: place 2 of two", x.byteAt(0, 2));
            Due.none("9: carrier 1", x.byteAt(1, 0));
            for (int far : Made.FAR_OFF) {
                Due.none("9: carrier " + far, x.byteAt(far, 0));
                Due.none("9: place " + far, x.byteAt(0, far));
            }
        }
    }

    private static void readAnswers() {
        WipePapers x = Made.inState(Made.WIPING, 1, 4);
        x.pass(0, 256);
        Due.is("10: place 0", x.read(0, 0, 3), 1);
        Due.is("10: place 3", x.read(0, 3, 24), 1);
        Due.is("10: place 1, unlike", x.read(0, 1, 11), 0);
        Due.is("10: a read changes no byte", x.byteAt(0, 1), 10);
        Due.none("10: place 1 again", x.read(0, 1, 10));
        Due.is("10: unlike is as before", x.unlike(0), 1);
        x.pass(0, 255);
        Due.is("10: behind the next pass", x.read(0, 1, 255), 1);
        x.pass(0, 0);
        Due.is("10: byte 0", x.read(0, 1, 0), 1);
    }

    private static void readRefusals() {
        WipePapers x = Made.inState(Made.WIPING, 1, 2);
        Due.none("10: no pass", x.read(0, 0, 0));
        x.pass(0, 5);
        Due.none("10: byte -1", x.read(0, 0, -1));
        Due.none("10: byte 256", x.read(0, 0, 256));
        Due.none("10: a byte and 256", x.read(0, 0, 261));
        Due.none("10: place 2 of two", x.read(0, 2, 5));
        Due.none("10: carrier 1", x.read(1, 0, 5));
        for (int far : Made.FAR_OFF) {
            Due.none("10: carrier " + far, x.read(far, 0, 5));
            Due.none("10: place " + far, x.read(0, far, 5));
        }
        Due.is("10: none of these was unlike", x.unlike(0), 0);
        Due.is("10: none of these was a read", x.read(0, 0, 5), 1);
        Due.is("10: still wiping", x.state(0), Made.WIPING);
        Due.is("10: the last place", x.read(0, 1, 5), 1);
        x.event(0, 4, 1);
        x.event(0, 3, 1);
        Due.none("10: no pass the next time", x.read(0, 0, 5));
    }

    private static void readInEachState() {
        WipePapers held = Made.inState(Made.CLEAN, 1, 2);
        Due.none("10: clean", held.read(0, 0, 9));
        held.event(0, 4, 1);
        Due.none("10: held", held.read(0, 0, 9));
        held.event(0, 1, 1);
        Due.none("10: taken in", held.read(0, 0, 9));
        WipePapers broken = Made.inState(Made.WIPING, 1, 2);
        broken.pass(0, 9);
        broken.event(0, 2, 1);
        Due.none("10: broken", broken.read(0, 0, 9));
        broken.shred(0, 1);
        Due.none("10: shredded", broken.read(0, 0, 9));
        WipePapers lost = Made.inState(Made.WIPING, 1, 2);
        lost.pass(0, 9);
        lost.lost(0);
        Due.none("10: lost", lost.read(0, 0, 9));
        Due.is("10: and stays so", lost.state(0), Made.LOST);
    }

    private static void readOfFailedPlaces() {
        WipePapers x = Made.inState(Made.WIPING, 1, 2);
        x.pass(0, 50);
        x.fail(0, 0);
        x.pass(0, 60);
        Due.is("10: what a failed place has is unlike", x.read(0, 0, 50), 0);
        x.pass(0, 61);
        Due.is("10: what it should have is not", x.read(0, 0, 61), 1);
        x.pass(0, 257);
        Due.is("10: its own byte turned", x.read(0, 0, 205), 1);
        Due.is("10: not failed, turned", x.read(0, 1, 194), 1);
        Due.is("10: clean though a place failed", x.state(0), Made.CLEAN);
        Due.is("10: and that has its old byte", x.byteAt(0, 0), 50);
    }

    private static void failBehindThePass() {
        WipePapers x = Made.inState(Made.WIPING, 1, 1);
        x.pass(0, 50);
        x.pass(0, 257);
        x.fail(0, 0);
        Due.is("10: failed after it was turned", x.byteAt(0, 0), 205);
        Due.is("10: should have what the pass gave", x.read(0, 0, 205), 1);
    }

    private static void cleanWhenAllWereRead() {
        WipePapers x = Made.inState(Made.WIPING, 1, 64);
        x.pass(0, 1);
        for (int i = 63; i >= 0; i--) {
            Due.is("10: wiping before read " + i, x.state(0), Made.WIPING);
            Due.is("10: read " + i, x.read(0, i, 1), 1);
        }
        Due.is("10: clean", x.state(0), Made.CLEAN);
        WipePapers y = Made.inState(Made.WIPING, 1, 2);
        y.pass(0, 1);
        y.read(0, 0, 1);
        y.pass(0, 1);
        y.read(0, 1, 1);
        Due.is("10: reads behind an earlier pass do not count", y.state(0), Made.WIPING);
        y.read(0, 0, 2);
        Due.is("10: one is unlike", y.state(0), Made.WIPING);
        y.pass(0, 1);
        Made.wipe(y, 0, 2, 1);
        Due.is("10: clean by the next pass", y.state(0), Made.CLEAN);
    }

    private static void oneUnlikeKeepsItWiping() {
        for (int unlike : new int[] {0, 31, 63}) {
            WipePapers x = Made.inState(Made.WIPING, 1, 64);
            x.pass(0, 200);
            for (int i = 0; i < 64; i++) {
                x.read(0, i, i == unlike ? 201 : 200);
            }
            Due.is("10: place " + unlike + " is unlike", x.state(0), Made.WIPING);
            Due.none("10: and is not read again", x.read(0, unlike, 200));
            Due.is("11: one of 64", x.unlike(0), 1);
            Due.is("10: still wiping", x.state(0), Made.WIPING);
            Due.is("8: another pass", x.pass(0, 200), 2);
            for (int i = 0; i < 64; i++) {
                x.read(0, i, 200);
            }
            Due.is("10: clean behind that", x.state(0), Made.CLEAN);
        }
    }

    private static void onePlaceIsAll() {
        WipePapers x = Made.inState(Made.WIPING, 1, 1);
        x.pass(0, 0);
        Due.is("10: not read yet", x.state(0), Made.WIPING);
        Due.is("10: the only place, unlike", x.read(0, 0, 1), 0);
        Due.is("10: still wiping", x.state(0), Made.WIPING);
        x.pass(0, 0);
        Due.is("10: the only place", x.read(0, 0, 0), 1);
        Due.is("10: clean", x.state(0), Made.CLEAN);
    }

    private static void noPassesTheNextTime() {
        WipePapers x = Made.inState(Made.CLEAN, 1, 2);
        x.event(0, 4, 1);
        x.event(0, 3, 1);
        Due.is("4: the bytes stay", x.byteAt(0, 1), 9);
        Due.none("10: no pass yet", x.read(0, 0, 9));
        Due.is("11: no read yet", x.unlike(0), 0);
        Due.is("8: the first again", x.pass(0, 257), 1);
        Due.is("8: the bytes were kept for it", x.byteAt(0, 1), 246);
        Due.is("10: place 0 again", x.read(0, 0, 246), 1);
        Due.is("10: not all were read this time", x.state(0), Made.WIPING);
        Due.is("10: place 1 again", x.read(0, 1, 246), 1);
        Due.is("10: clean again", x.state(0), Made.CLEAN);
        x.paper(0, 1, 2);
        Due.is("15: one pass alone", x.at(0, 5), 1);
        Due.is("15: the new one", x.at(0, 6), 257);
        Due.none("15: no other", x.at(0, 7));
    }

    private static void allUnlike() {
        WipePapers x = Made.inState(Made.WIPING, 1, 64);
        x.pass(0, 0);
        for (int i = 0; i < 64; i++) {
            Due.is("10: place " + i, x.read(0, i, 255), 0);
            Due.is("11: so far", x.unlike(0), i + 1);
        }
        Due.none("10: no place is left", x.read(0, 63, 255));
        Due.is("11: all 64", x.unlike(0), 64);
        Due.is("10: still wiping", x.state(0), Made.WIPING);
    }

    private static void unlikeCounts() {
        WipePapers x = Made.inState(Made.WIPING, 1, 3);
        Due.is("11: no pass", x.unlike(0), 0);
        x.pass(0, 1);
        for (int i = 0; i < 3; i++) {
            x.read(0, i, 2);
            Due.is("11: unlike ones", x.unlike(0), i + 1);
        }
        Due.is("11: all unlike, still wiping", x.state(0), Made.WIPING);
        x.pass(0, 1);
        Due.is("11: behind the next pass", x.unlike(0), 0);
        x.read(0, 0, 2);
        x.read(0, 1, 1);
        Due.is("11: one of two", x.unlike(0), 1);
        x.event(0, 2, 1);
        Due.is("11: of a broken one", x.unlike(0), 1);
        x.shred(0, 1);
        Due.is("11: of a shredded one", x.unlike(0), 1);
        for (int state = 0; state <= 6; state++) {
            Due.is("11: in state " + state, Made.inState(state, 1, 2).unlike(0), 0);
        }
        Due.none("11: unlike(1)", x.unlike(1));
        for (int far : Made.FAR_OFF) {
            Due.none("11: unlike(" + far + ")", x.unlike(far));
        }
    }
}
