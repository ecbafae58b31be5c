/** Promises 16 to 27 where functions use each other as often as a text allows. */
public final class HeavyTest {
    public static void main(String[] args) {
        nestedFunctions();
        deepTexts();
        manyObjectsAndCalls();
        Checks.end();
    }

    private static String nested(char letter) {
        return Checks.repeated(letter + "(", 13) + "x" + Checks.repeated(")", 13);
    }

    private static void nestedFunctions() {
        CountedNumbers numbers = new CountedNumbers();
        numbers.setModulus(199);
        Checks.define(numbers, 0, "x+1");
        Checks.same("nodes of 13 calls", Checks.define(numbers, 1, nested('f')), 14);
        Checks.define(numbers, 2, nested('g'));
        Checks.define(numbers, 3, nested('h'));
        Checks.same("13^3 times 1 more", numbers.valueAt(3, 5), (5 + 13 * 13 * 13) % 199);
        Checks.same("its slope by hinges", numbers.slopeByHinges(3, 5), 1);
        Checks.same("its slope by rules", numbers.slopeByRules(3, 5), 1);
        for (int call = 0; call < 20; call++) {
            Checks.define(numbers, 0, call % 2 == 0 ? "3*x" : "x^3+1");
            Checks.same("bans", numbers.bansOf(3), 0);
            Checks.same("flats", numbers.flatsOf(3) >= 0, true);
            Checks.same("same", numbers.isSame(2, 3), false);
        }
        Checks.define(numbers, 0, "3*x");
        int power = 1;
        for (int times = 0; times < 13 * 13 * 13; times++) {
            power = power * 3 % 199;
        }
        Checks.same("3, multiplied 13^3 times", numbers.slopeByRules(3, 7), power);
        Checks.same("by hinges, too", numbers.slopeByHinges(3, 7), power);
        Checks.same("the value", numbers.valueAt(3, 7), power * 7 % 199);
    }

    private static void deepTexts() {
        String[] parts = {"(", "-", "f(", "(-", "f((", "x+(", "x^2*("};
        for (String part : parts) {
            CountedNumbers numbers = new CountedNumbers();
            String text = Checks.repeated(part, 40 / part.length());
            Checks.write(numbers, text);
            Checks.same("too early: " + text, numbers.textError(), text.length());
            Checks.badState("define by " + text, () -> numbers.define(3));
        }
        CountedNumbers numbers = new CountedNumbers();
        Checks.define(numbers, 0, Checks.repeated("-(", 13) + "x" + Checks.repeated(")", 13));
        Checks.same("13 times -", numbers.valueAt(0, 1), 96);
        Checks.same("depth of 13 times -", numbers.depthOf(0), 14);
        Checks.define(numbers, 1, Checks.repeated("x+(", 9) + "x" + Checks.repeated(")", 9));
        Checks.same("10 times x", numbers.slopeByRules(1, 1), 10);
        Checks.same("depth of 10 times x", numbers.depthOf(1), 10);
        Checks.define(numbers, 2, "x-x-x-x-x-x-x-x-x-x-x-x-x-x-x-x-x-x-x-x");
        Checks.same("x less 19 times x", numbers.slopeByRules(2, 1), 97 - 18);
    }

    /** What 512 calls keep or make must stay small. */
    private static void manyObjectsAndCalls() {
        CountedNumbers numbers = new CountedNumbers();
        Checks.define(numbers, 0, Checks.repeated("-", 39) + "x");
        com.sun.management.ThreadMXBean threads =
                (com.sun.management.ThreadMXBean) java.lang.management.ManagementFactory.getThreadMXBean();
        long self = Thread.currentThread().getId();
        long before = threads.getThreadAllocatedBytes(self);
        for (int call = 0; call < 256; call++) {
            numbers.define(call % 4);
        }
        long bytes = threads.getThreadAllocatedBytes(self) - before;
        Checks.same("256 calls of define make less than half a MB", bytes < 500_000, true);
        before = threads.getThreadAllocatedBytes(self);
        for (int call = 0; call < 40; call++) {
            numbers.flatsOf(3);
            numbers.stepsToRoot(2, 50);
            numbers.chainByProducts(3, 2, 1);
            numbers.chainByFeeding(3, 2, 1);
            numbers.textError();
        }
        bytes = threads.getThreadAllocatedBytes(self) - before;
        Checks.same("calls that ask make nothing", bytes < 8_000, true);
    }
}
