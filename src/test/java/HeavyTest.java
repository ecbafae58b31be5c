/** Promises 16 to 27 where functions use each other as often as a text allows. */
public final class HeavyTest {
    public static void main(String[] args) {
        nestedFunctions();
        deepTexts();
        manyObjectsAndCalls();
        noCallFailsByItself();
        Checks.end();
    }

    private static String nested(char letter) {
        return Checks.repeated(letter + "(", 13) + "x" + Checks.repeated(")", 13);
    }

    private static void nestedFunctions() {
        CountedNumbers numbers = new CountedNumbers();
        numbers.setModulus(199);
        Checks.define(numbers, 0, "x+1");
        Checks.same("nodes of 13 calls", Checks.define(numbers, 1, nested('f')), 14);
        Checks.define(numbers, 2, nested('g'));
        Checks.define(numbers, 3, nested('h'));
        Checks.same("13^3 times 1 more", numbers.valueAt(3, 5), (5 + 13 * 13 * 13) % 199);
        Checks.same("its slope by hinges", numbers.slopeByHinges(3, 5), 1);
        Checks.same("its slope by rules", numbers.slopeByRules(3, 5), 1);
        for (int call = 0; call < 20; call++) {
            Checks.define(numbers, 0, call % 2 == 0 ? "3*x" : "x^3+1");
            Checks.same("bans", numbers.bansOf(3), 0);
            Checks.same("flats", numbers.flatsOf(3) >= 0, true);
            Checks.same("same", numbers.isSame(2, 3), false);
        }
        Checks.define(numbers, 0, "3*x");
        int power = 1;
        for (int times = 0; times < 13 * 13 * 13; times++) {
            power = power * 3 % 199;
        }
        Checks.same("3, multiplied 13^3 times", numbers.slopeByRules(3, 7), power);
        Checks.same("by hinges, too", numbers.slopeByHinges(3, 7), power);
        Checks.same("the value", numbers.valueAt(3, 7), power * 7 % 199);
    }

    private static void deepTexts() {
        String[] parts = {"(", "-", "f(", "(-", "f((", "x+(", "x^2*("};
        for (String part : parts) {
            CountedNumbers numbers = new CountedNumbers();
            String text = Checks.repeated(part, 40 / part.length());
            Checks.write(numbers, text);
            Checks.same("too early: " + text, numbers.textError(), text.length());
            Checks.badState("define by " + text, () -> numbers.define(3));
        }
        CountedNumbers numbers = new CountedNumbers();
        Checks.define(numbers, 0, Checks.repeated("-(", 13) + "x" + Checks.repeated(")", 13));
        Checks.same("13 times -", numbers.valueAt(0, 1), 96);
        Checks.same("depth of 13 times -", numbers.depthOf(0), 14);
        Checks.define(numbers, 1, Checks.repeated("x+(", 9) + "x" + Checks.repeated(")", 9));
        Checks.same("10 times x", numbers.slopeByRules(1, 1), 10);
        Checks.same("depth of 10 times x", numbers.depthOf(1), 10);
        Checks.define(numbers, 2, "x-x-x-x-x-x-x-x-x-x-x-x-x-x-x-x-x-x-x-x");
        Checks.same("x less 19 times x", numbers.slopeByRules(2, 1), 97 - 18);
    }

    /** What 512 calls keep or make must stay small. */
    private static void manyObjectsAndCalls() {
        CountedNumbers numbers = new CountedNumbers();
        Checks.define(numbers, 0, Checks.repeated("-", 39) + "x");
        com.sun.management.ThreadMXBean threads =
                (com.sun.management.ThreadMXBean) java.lang.management.ManagementFactory.getThreadMXBean();
        long self = Thread.currentThread().getId();
        long before = threads.getThreadAllocatedBytes(self);
        for (int call = 0; call < 256; call++) {
            numbers.define(call % 4);
        }
        long bytes = threads.getThreadAllocatedBytes(self) - before;
        Checks.same("256 calls of define make less than half a MB", bytes < 500_000, true);
        before = threads.getThreadAllocatedBytes(self);
        for (int call = 0; call < 40; call++) {
            numbers.flatsOf(3);
            numbers.stepsToRoot(2, 50);
            numbers.chainByProducts(3, 2, 1);
            numbers.chainByFeeding(3, 2, 1);
            numbers.textError();
        }
        bytes = threads.getThreadAllocatedBytes(self) - before;
        Checks.same("calls that ask make nothing", bytes < 8_000, true);
    }

    /**
     * What calls answer after the 512th is free, but LANGUAGE rule 7 holds for any arguments in any
     * state: what comes out of a call must have been thrown by a method of the face itself.
     */
    private static void noCallFailsByItself() {
        java.util.Random random = new java.util.Random(7);
        int[] ends = {Integer.MIN_VALUE, -200, -2, -1, 0, 1, 2, 3, 4, 5, 6, 96, 97, 198, 199, 200, Integer.MAX_VALUE};
        String signs = "xxx123-+*/^(()))fgh\uffff";
        for (int object = 0; object < 20; object++) {
            HingeNumbers numbers = new HingeNumbers();
            for (int call = 0; call < 5000; call++) {
                int first = random.nextBoolean() ? random.nextInt(4) : ends[random.nextInt(ends.length)];
                int second = random.nextBoolean() ? random.nextInt(4) : ends[random.nextInt(ends.length)];
                int third = random.nextBoolean() ? random.nextInt(7) : ends[random.nextInt(ends.length)];
                char sign = signs.charAt(random.nextInt(signs.length()));
                int kind = random.nextInt(40);
                byFace("call kind " + kind, () -> anyCall(numbers, kind, sign, first, second, third));
            }
        }
    }

    private static void byFace(String what, Checks.Call call) {
        String thrower = "";
        try {
            call.answer();
        } catch (RuntimeException thrown) {
            StackTraceElement top = thrown.getStackTrace()[0];
            boolean isPlain = thrown.getClass() == IllegalStateException.class
                    || thrown.getClass() == IllegalArgumentException.class
                    || thrown.getClass() == IndexOutOfBoundsException.class;
            thrower = isPlain && top.getClassName().equals("HingeNumbers") ? "" : thrown.toString();
        } catch (StackOverflowError | OutOfMemoryError thrown) {
            thrower = thrown.toString();
        }
        Checks.same(what + " fails by itself " + thrower, thrower.isEmpty(), true);
    }

    private static final String[] TEXTS = {"1/x", "f(x)^9/(x-1)", "x-g(f(x)/h(2))", Checks.repeated("-", 39) + "x",
        Checks.repeated("h(", 13) + "x" + Checks.repeated(")", 13), Checks.repeated("x*", 19) + "99", "999/f(x^2)"};

    private static long typeAll(HingeNumbers numbers, String text) {
        numbers.clearText();
        for (char sign : text.toCharArray()) {
            numbers.type(sign);
        }
        return numbers.textError();
    }

    private static long anyCall(HingeNumbers numbers, int kind, char sign, int first, int second, int third) {
        return switch (kind) {
            case 0, 1, 2 -> numbers.define(first);
            case 3 -> numbers.copy(first, second);
            case 4 -> numbers.setModulus(third);
            case 5 -> numbers.clearText();
            case 6 -> numbers.textError();
            case 7 -> numbers.leastToDefine();
            case 8 -> numbers.undo();
            case 9 -> numbers.takeSnapshot();
            case 10 -> numbers.restoreSnapshot();
            case 11 -> numbers.nodesOf(first);
            case 12 -> numbers.unlikeNodesOf(first);
            case 13 -> numbers.depthOf(first);
            case 14 -> numbers.modulus();
            case 15 -> numbers.valueAt(first, third);
            case 16 -> numbers.slopeByHinges(first, third);
            case 17 -> numbers.slopeByRules(first, third);
            case 18 -> numbers.chainByProducts(first, second, third);
            case 19 -> numbers.chainByFeeding(first, second, third);
            case 20 -> numbers.bansOf(first);
            case 21 -> numbers.flatsOf(first);
            case 22 -> numbers.firstFlat(first);
            case 23 -> numbers.rootsOf(first);
            case 24 -> numbers.isSame(first, second) ? 1 : 0;
            case 25 -> numbers.step(first, third);
            case 26 -> numbers.stepsToRoot(first, third);
            case 27 -> numbers.recordedStates();
            case 28, 29 -> typeAll(numbers, TEXTS[Math.floorMod(third, TEXTS.length)]);
            default -> numbers.type(sign);
        };
    }
}
