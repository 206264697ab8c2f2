import java.util.ArrayList;
import java.util.List;
import java.util.function.Supplier;
import java.util.function.ToLongFunction;

/** Compares all that can be asked of two objects, their histories too. */
final class Look {
    private Look() {
    }

    /** The call is answered by the error, and the object is then like one for which it was not made. */
    static void refused(Supplier<BlindHunts> given, String name, ToLongFunction<BlindHunts> call, long error) {
        Due.is(name, call.applyAsLong(given.get()), error);
        unchanged(given, name, call);
    }

    /** The object is behind the call like one for which it was not made. */
    static void unchanged(Supplier<BlindHunts> given, String name, ToLongFunction<BlindHunts> call) {
        BlindHunts called = given.get();
        call.applyAsLong(called);
        same(name, called, given.get());
        // A call that records a state can be one that is asked for the comparison too: this comes ahead of it.
        BlindHunts undone = given.get();
        call.applyAsLong(undone);
        BlindHunts like = given.get();
        Due.is(name + ": undo() behind it", undone.undo(), like.undo());
        same(name + ", undone", undone, like);
    }

    /** Uses both objects up. */
    static void same(String name, BlindHunts x, BlindHunts like) {
        List<Long> want = all(like);
        List<Long> got = all(x);
        Due.is(name + ": how much can be asked behind it", got.size(), want.size());
        for (int i = 0; i < Math.min(got.size(), want.size()); i++) {
            Due.is(name + ": answer " + i + " behind it", got.get(i), want.get(i));
        }
    }

    private static List<Long> all(BlindHunts x) {
        List<Long> answers = new ArrayList<>();
        long left = 0;
        for (int i = 0; i <= 5 && left >= 0; i++) {
            state(x, answers);
            left = x.undo();
            answers.add(left);
        }
        answers.add((long) x.clearText());
        return answers;
    }

    private static void state(BlindHunts x, List<Long> answers) {
        for (int what = 0; what < 8; what++) {
            answers.add((long) x.count(what));
        }
        for (int what = 20; what < 23; what++) {
            answers.add((long) x.count(what));
        }
        for (int place = 0; place < x.count(0); place++) {
            for (int what = 0; what < 4; what++) {
                answers.add((long) x.placeOf(place, what));
            }
        }
        for (int round = 0; round < Math.min(x.count(4), 8); round++) {
            for (int what = 0; what < 3; what++) {
                answers.add((long) x.roundOf(round, what));
            }
        }
        answers.add((long) x.beliefs(1));
        answers.add((long) x.fault(0));
        answers.add((long) x.fault(1));
    }
}
