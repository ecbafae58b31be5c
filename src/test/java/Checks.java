/** What the tests share: it compares answers, counts the wrong ones and ends the run. */
final class Checks {
    interface Call {
        long answer();
    }

    static final int[] PRIMES = {2, 3, 5, 7, 11, 13, 17, 19, 23, 29, 31, 37, 41, 43, 47, 53, 59, 61, 67, 71, 73, 79,
        83, 89, 97, 101, 103, 107, 109, 113, 127, 131, 137, 139, 149, 151, 157, 163, 167, 173, 179, 181, 191, 193,
        197, 199};

    private static int wrong = 0;
    private static int made = 0;

    private Checks() {
    }

    static void same(String what, long got, long due) {
        made++;
        if (got != due) {
            wrong++;
            System.out.println(what + ": answered " + got + ", due is " + due);
        }
    }

    static void same(String what, boolean got, boolean due) {
        same(what, got ? 1 : 0, due ? 1 : 0);
    }

    static void refused(String what, Class<? extends Exception> due, Call call) {
        made++;
        String got;
        try {
            got = "answered " + call.answer();
        } catch (RuntimeException thrown) {
            if (thrown.getClass() == due) {
                return;
            }
            got = "threw " + thrown;
        }
        wrong++;
        System.out.println(what + ": " + got + ", due is " + due.getSimpleName());
    }

    static void outOfBounds(String what, Call call) {
        refused(what, IndexOutOfBoundsException.class, call);
    }

    static void badArgument(String what, Call call) {
        refused(what, IllegalArgumentException.class, call);
    }

    static void badState(String what, Call call) {
        refused(what, IllegalStateException.class, call);
    }

    static void write(CountedNumbers numbers, String text) {
        numbers.clearText();
        for (int index = 0; index < text.length(); index++) {
            numbers.type(text.charAt(index));
        }
    }

    static int define(CountedNumbers numbers, int function, String text) {
        write(numbers, text);
        return numbers.define(function);
    }

    /** A new object with this modulus, whose functions, from f on, are told by these texts. */
    static CountedNumbers told(int prime, String... texts) {
        CountedNumbers numbers = new CountedNumbers();
        numbers.setModulus(prime);
        for (int function = 0; function < texts.length; function++) {
            define(numbers, function, texts[function]);
        }
        return numbers;
    }

    static int errorOf(String text) {
        CountedNumbers numbers = new CountedNumbers();
        write(numbers, text);
        return numbers.textError();
    }

    static String repeated(String part, int times) {
        return part.repeat(times);
    }

    static void end() {
        System.out.println(made + " checks, " + wrong + " wrong");
        if (made == 0 || wrong != 0) {
            System.exit(1);
        }
    }
}
