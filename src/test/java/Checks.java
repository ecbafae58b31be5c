import java.util.ArrayList;
import java.util.List;

/** What the tests share: it compares answers, counts the wrong ones and ends the run. */
final class Checks {
    interface Call {
        long answer();
    }

    private static int wrong = 0;
    private static int made = 0;

    private Checks() {
    }

    static void same(String what, long got, long due) {
        made++;
        if (got != due) {
            wrong++;
            System.out.println(what + ": answered " + got + ", due is " + due);
        }
    }

    static void same(String what, boolean got, boolean due) {
        same(what, got ? 1 : 0, due ? 1 : 0);
    }

    static void refused(String what, Class<? extends Exception> due, Call call) {
        made++;
        String got = "answered " + null;
        try {
            got = "answered " + call.answer();
        } catch (RuntimeException thrown) {
            if (thrown.getClass() == due) {
                return;
            }
            got = "threw " + thrown;
        }
        wrong++;
        System.out.println(what + ": " + got + ", due is " + due.getSimpleName());
    }

    /** The call must be refused, and nothing that can be asked may be changed by it. */
    static void refusedUnchanged(String what, Class<? extends Exception> due, HingeNumbers numbers, Call call) {
        List<Long> before = answersOf(numbers);
        refused(what, due, call);
        same(what + " leaves all as it was", before.equals(answersOf(numbers)), true);
    }

    static void outOfBounds(String what, HingeNumbers numbers, Call call) {
        refusedUnchanged(what, IndexOutOfBoundsException.class, numbers, call);
    }

    static void badArgument(String what, HingeNumbers numbers, Call call) {
        refusedUnchanged(what, IllegalArgumentException.class, numbers, call);
    }

    static void badState(String what, HingeNumbers numbers, Call call) {
        refusedUnchanged(what, IllegalStateException.class, numbers, call);
    }

    /** All that can be asked without changing anything. */
    static List<Long> answersOf(HingeNumbers numbers) {
        List<Long> answers = new ArrayList<>();
        answers.add((long) numbers.modulus());
        answers.add((long) numbers.recordedStates());
        answers.add((long) numbers.textError());
        for (int function = 0; function < 4; function++) {
            answers.add((long) numbers.nodesOf(function));
            answers.add((long) numbers.unlikeNodesOf(function));
            answers.add((long) numbers.depthOf(function));
            for (int x = 0; x < numbers.modulus(); x++) {
                answers.add((long) numbers.valueAt(function, x));
                answers.add((long) numbers.slopeByHinges(function, x));
            }
        }
        return answers;
    }

    static void write(HingeNumbers numbers, String text) {
        numbers.clearText();
        for (int index = 0; index < text.length(); index++) {
            numbers.type(text.charAt(index));
        }
    }

    static int define(HingeNumbers numbers, int function, String text) {
        write(numbers, text);
        return numbers.define(function);
    }

    static int errorOf(String text) {
        HingeNumbers numbers = new HingeNumbers();
        write(numbers, text);
        return numbers.textError();
    }

    static String repeated(String part, int times) {
        return part.repeat(times);
    }

    static void end() {
        System.out.println(made + " checks, " + wrong + " wrong");
        if (made == 0 || wrong != 0) {
            System.exit(1);
        }
    }
}
