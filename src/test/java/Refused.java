import java.util.LinkedHashSet;
import java.util.Set;

/** Calls that must be refused, and must leave the object as it was. */
final class Refused {
    interface AskNumber {
        Object of(FraudSieve x, int number);
    }

    private Refused() {
    }

    static void call(String label, Class<? extends RuntimeException> due, Scenes.Scene scene,
            Snapshot.Ask call) {
        FraudSieve x = scene.make();
        Check.fails(label, due, () -> call.of(x));
        Check.same(label + " changes nothing", "no change", () -> Snapshot.change(scene, call));
    }

    /** The call is refused with each number that is out of the range. */
    static void outside(int least, int greatest, Class<? extends RuntimeException> due,
            Scenes.Scene scene, AskNumber call) {
        for (int number : numbersOutside(least, greatest)) {
            call("with " + number, due, scene, x -> call.of(x, number));
        }
    }

    static void accounts(AskNumber call) {
        outside(0, -1, Check.INDEX, Scenes.EMPTY, call);
        outside(0, 5, Check.INDEX, Scenes.MIXED, call);
        outside(0, 19, Check.INDEX, Scenes.FULL, call);
    }

    static void payments(AskNumber call) {
        outside(0, -1, Check.ELEMENT, Scenes.EMPTY, call);
        paymentsOfSome(call);
    }

    /** As payments, for calls that another exception refuses if nothing is there. */
    static void paymentsOfSome(AskNumber call) {
        outside(0, 5, Check.ELEMENT, Scenes.MIXED, call);
        outside(0, 199, Check.ELEMENT, Scenes.FULL, call);
    }

    static void conditions(AskNumber call) {
        outside(0, -1, Check.INDEX, Scenes.EMPTY, call);
        outside(0, 6, Check.INDEX, Scenes.MIXED, call);
        outside(0, 29, Check.INDEX, Scenes.FULL, call);
    }

    static void rules(AskNumber call) {
        outside(0, -1, Check.INDEX, Scenes.EMPTY, call);
        outside(0, 3, Check.INDEX, Scenes.MIXED, call);
        outside(0, 11, Check.INDEX, Scenes.FULL, call);
    }

    static void windows(Scenes.Scene scene, AskNumber call) {
        outside(1, 10080, Check.ARGUMENT, scene, call);
    }

    /** Those next to the range, the ends of int, and some that wrap around to the least one. */
    private static Set<Integer> numbersOutside(int least, int greatest) {
        Set<Integer> numbers = new LinkedHashSet<>();
        int[] candidates = {least - 1, greatest + 1, Integer.MIN_VALUE, Integer.MAX_VALUE,
            least + (1 << 5), least + (1 << 8), least + (1 << 16), least + Integer.MIN_VALUE};
        for (int number : candidates) {
            if (number < least || number > greatest) {
                numbers.add(number);
            }
        }
        return numbers;
    }
}
