import java.util.function.Function;
import java.util.function.Supplier;

/** What the tests by hand share: answers that are due, refused calls, ranges, and the sentences that they stand for. */
final class Tries {
    static final String INDEX = "IndexOutOfBoundsException";
    static final String ARGUMENT = "IllegalArgumentException";
    static final String STATE = "IllegalStateException";
    private static final Document DOCUMENT = Document.read();
    private static int wrong = 0;
    private static String now = "";

    private Tries() {
    }

    interface Call {
        Object answer();
    }

    interface CallWith {
        Object answer(OperaMachines x, int value);
    }

    /** A test of one sentence, which stands so in that section of the document. */
    static void sentence(String section, String sentence, Runnable test) {
        test(section + ", \"" + sentence + "\"", test);
        due(true, "the document has the sentence: it", DOCUMENT.tested(section, sentence));
    }

    static void test(String name, Runnable test) {
        now = name;
        try {
            test.run();
        } catch (RuntimeException e) {
            wrong++;
            System.out.println(now + ": " + e + " at " + e.getStackTrace()[0]);
        }
    }

    /** Each line of the document's promises must have had a test of a sentence of its own. */
    static void checkNoPromiseIsLeftOut() {
        now = "the document";
        due("", "what no test of a sentence stands for", DOCUMENT.untestedPromises());
    }

    static void end(String name) {
        System.out.println(name + ": " + wrong + " wrong");
        if (wrong != 0) {
            System.exit(1);
        }
    }

    static void due(Object want, String what, Object got) {
        if (!want.equals(got)) {
            wrong++;
            System.out.println(now + ": " + what + " is " + got + ", due is " + want);
        }
    }

    static String thrown(Call call) {
        try {
            return "nothing, but answers " + call.answer();
        } catch (RuntimeException e) {
            return told(e);
        }
    }

    /** An exception that the Java machine or its library threw by itself is never due: it is told with its place. */
    static String told(RuntimeException e) {
        StackTraceElement thrower = e.getStackTrace()[0];
        String name = e.getClass().getSimpleName();
        return thrower.getClassName().startsWith("OperaMachines") ? name : name + " at " + thrower;
    }

    /**
     * The call throws what is due, and the object answers like one without that call.
     * Each try has objects of its own, so that none comes to its 512th call.
     */
    static void refused(String want, String what, Supplier<OperaMachines> made, Function<OperaMachines, Object> call) {
        due(want, what + " throws", thrown(() -> call.apply(made.get())));
        OperaMachines x = made.get();
        thrown(() -> call.apply(x));
        due(Probe.everything(made.get()), "everything after the refused " + what, Probe.everything(x));
        OperaMachines y = made.get();
        thrown(() -> call.apply(y));
        due(Probe.rules(made.get()), "the rules after the refused " + what, Probe.rules(y));
    }

    /** Each value of the range is taken; those just and far outside are refused. */
    static void range(String refusal, String what, int least, int most, Supplier<OperaMachines> made, CallWith call) {
        for (int value = least; value <= most; value++) {
            taken(what, made, call, value);
        }
        int[] outside = {least - 1, least - 2, -most, -1000, least - 65536, Integer.MIN_VALUE,
            most + 1, most + 2, 2 * most + 1, 3000, most + 65536, Integer.MAX_VALUE};
        for (int value : outside) {
            if (value < least || value > most) {
                refused(refusal, what + " " + value, made, x -> call.answer(x, value));
            }
        }
    }

    private static void taken(String what, Supplier<OperaMachines> made, CallWith call, int value) {
        try {
            call.answer(made.get(), value);
        } catch (RuntimeException e) {
            due("taken", what + " " + value, told(e));
        }
    }

    static Object setScore(OperaMachines x, int bars, int ticks) {
        x.setScore(bars, ticks);
        return "";
    }

    static Object setRules(OperaMachines x, int rest, int limit) {
        x.setRules(rest, limit);
        return "";
    }
}
