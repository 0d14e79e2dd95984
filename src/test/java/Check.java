import java.util.NoSuchElementException;

/** Compares answers with the ones that are due, and counts and prints the wrong ones. */
final class Check {
    interface Call {
        Object answer();
    }

    static final Class<? extends RuntimeException> INDEX = IndexOutOfBoundsException.class;
    static final Class<? extends RuntimeException> ARGUMENT = IllegalArgumentException.class;
    static final Class<? extends RuntimeException> STATE = IllegalStateException.class;
    static final Class<? extends RuntimeException> ELEMENT = NoSuchElementException.class;
    static final Class<? extends RuntimeException> ARITHMETIC = ArithmeticException.class;
    static final Class<? extends RuntimeException> UNSUPPORTED =
            UnsupportedOperationException.class;

    private static int calls = 0;
    private static int wrong = 0;
    private static String topic = "";

    private Check() {
    }

    static void same(String label, Object due, Call call) {
        calls++;
        String got = outcome(call);
        if (!got.equals(String.valueOf(due))) {
            wrong++;
            System.out.println(topic + label + ": answered " + got + ", due is " + due);
        }
    }

    static void fails(String label, Class<? extends RuntimeException> due, Call call) {
        same(label, "throws " + due.getName(), call);
    }

    /** The answer as text; of an exception the exact class, so that one of the machine shows. */
    static String outcome(Call call) {
        try {
            return String.valueOf(call.answer());
        } catch (RuntimeException e) {
            String message = String.valueOf(e.getMessage());
            String machine = message.startsWith("/ by") ? " by the machine" : "";
            return "throws " + e.getClass().getName() + machine;
        }
    }

    /** What the checks are about from here on: wrong answers are printed with it. */
    static void setTopic(String text) {
        topic = text + ": ";
    }

    static int calls() {
        return calls;
    }

    static void finish() {
        System.out.println(calls + " answers, " + wrong + " wrong");
        if (wrong > 0) {
            System.exit(1);
        }
    }
}
