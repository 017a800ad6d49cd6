import java.util.List;
import java.util.function.Predicate;
import java.util.function.Supplier;
import java.util.function.ToLongFunction;

/** Two objects made alike, of which one gets one call more that must change nothing: they go on alike. */
final class Twins {
    private Twins() {
    }

    static void refuses(String sentence, Supplier<WipePapers> making, ToLongFunction<WipePapers> call) {
        answers(sentence, making, call, WipePapers.NONE);
    }

    static void denies(String sentence, Supplier<WipePapers> making, Predicate<WipePapers> call) {
        answers(sentence, making, x -> call.test(x) ? 1 : 0, 0);
    }

    /** A call that only asks changes nothing either, whatever it answers. */
    static void answers(String sentence, Supplier<WipePapers> making, ToLongFunction<WipePapers> call, long want) {
        for (int way = 0; way < Story.WAYS; way++) {
            WipePapers plain = making.get();
            WipePapers called = making.get();
            Due.is(sentence, call.applyAsLong(called), want);
            goOnAlike(sentence + ", then way " + way, Story.of(plain, way), Story.of(called, way));
        }
    }

    private static void goOnAlike(String sentence, List<Long> plain, List<Long> called) {
        Due.is(sentence + ", answers", called.size(), plain.size());
        for (int i = 0; i < plain.size() && i < called.size(); i++) {
            Due.is(sentence + ", answer " + i, called.get(i), plain.get(i));
        }
    }
}
