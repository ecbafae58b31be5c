import java.util.List;

/**
 * "If several exceptions apply to a call, the one that is listed first is thrown. A call that
 * throws an exception changes nothing." Every call that can be refused, in states in which the
 * text, the recorded states and the snapshot are empty, full and between: an object on which the
 * call was refused must tell the same of itself as one that is made alike without the call.
 */
public final class RefusalTest {
    /** Makes objects that are all in the same state. */
    private interface State {
        CountedNumbers make();
    }

    private interface Ask {
        long of(CountedNumbers numbers);
    }

    private static final int[] BAD_FUNCTIONS = {-1, 4, 5, 97, 260, -4, Integer.MAX_VALUE, Integer.MIN_VALUE};
    private static final int[] BAD_PRIMES = {1, 0, -1, -2, -3, -97, 4, 6, 9, 15, 25, 49, 91, 119, 121, 133, 143, 169,
        187, 189, 195, 196, 198, 200, 201, 211, 223, 257, 353, 1009, 65633, Integer.MAX_VALUE, Integer.MIN_VALUE};

    private final String name;
    private final State state;
    private final List<String> due;

    private RefusalTest(String name, State state) {
        this.name = name;
        this.state = state;
        this.due = Readout.of(state.make());
    }

    public static void main(String[] args) {
        newObject();
        textThatEndsTooEarly();
        wrongText();
        textThatUsesK();
        textThatUsesG();
        fullText();
        allFull();
        Checks.end();
    }

    // ---- the states

    private static void newObject() {
        RefusalTest test = new RefusalTest("a new object", CountedNumbers::new);
        test.badFunctions();
        test.badX();
        test.badPrimes();
        test.invalidText();
        test.refused("undo", IllegalStateException.class, CountedNumbers::undo);
        test.refused("restoreSnapshot", IllegalStateException.class, CountedNumbers::restoreSnapshot);
    }

    private static void textThatEndsTooEarly() {
        RefusalTest test = new RefusalTest("a text that ends too early", () -> {
            CountedNumbers numbers = Checks.told(2, "1/x");
            numbers.undo();
            Checks.write(numbers, "x-");
            return numbers;
        });
        test.badFunctions();
        test.badX();
        test.badPrimes();
        test.invalidText();
        test.refused("restoreSnapshot", IllegalStateException.class, CountedNumbers::restoreSnapshot);
    }

    private static void wrongText() {
        RefusalTest test = new RefusalTest("a wrong text", () -> {
            CountedNumbers numbers = Checks.told(3, "x+2", "f(x)*x");
            numbers.takeSnapshot();
            numbers.setModulus(13);
            numbers.undo();
            numbers.undo();
            numbers.undo();
            numbers.undo();
            Checks.write(numbers, "k(x)y");
            return numbers;
        });
        test.badFunctions();
        test.badX();
        test.invalidText();
        test.refused("undo", IllegalStateException.class, CountedNumbers::undo);
    }

    private static void textThatUsesK() {
        RefusalTest test = new RefusalTest("a text that uses k", () -> {
            CountedNumbers numbers = Checks.told(5, "x^2+1", "f(x)/(x-3)", "g(x)*x", "h(x)-f(2)");
            numbers.setModulus(7);
            numbers.takeSnapshot();
            numbers.setModulus(11);
            Checks.write(numbers, "k(x)+1");
            return numbers;
        });
        test.badFunctions();
        test.badX();
        test.badPrimes();
        for (int function = 0; function < 4; function++) {
            int f = function;
            test.refused("define " + f, IllegalStateException.class, numbers -> numbers.define(f));
        }
        test.badCopy(0, 1);
        test.badCopy(0, 2);
        test.badCopy(0, 3);
        test.badCopy(1, 2);
        test.badCopy(1, 3);
        test.badCopy(2, 3);
    }

    private static void textThatUsesG() {
        RefusalTest test = new RefusalTest("a text that uses g", () -> {
            CountedNumbers numbers = Checks.told(199, "x-1", "f(x)+x", "f(f(x))", "f(x)+g(x)");
            Checks.write(numbers, "g(x)*f(2)");
            return numbers;
        });
        test.badFunctions();
        test.badX();
        test.refused("define f", IllegalStateException.class, numbers -> numbers.define(0));
        test.refused("define g", IllegalStateException.class, numbers -> numbers.define(1));
        test.badCopy(0, 1);
        test.badCopy(0, 2);
        test.badCopy(0, 3);
        test.badCopy(1, 3);
        test.refused("restoreSnapshot", IllegalStateException.class, CountedNumbers::restoreSnapshot);
    }

    private static void fullText() {
        RefusalTest test = new RefusalTest("a text of 40 characters", () -> {
            CountedNumbers numbers = new CountedNumbers();
            Checks.write(numbers, Checks.repeated("x*", 19) + "2*");
            return numbers;
        });
        test.badFunctions();
        test.invalidText();
        test.badType();
        test.refused("undo", IllegalStateException.class, CountedNumbers::undo);
    }

    private static void allFull() {
        RefusalTest test = new RefusalTest("all full", () -> {
            CountedNumbers numbers = Checks.told(199, "x/3", "f(x)^3", "x-g(x)", "h(f(x))");
            numbers.takeSnapshot();
            numbers.setModulus(101);
            Checks.define(numbers, 1, Checks.repeated("-", 39) + "x");
            return numbers;
        });
        test.badFunctions();
        test.badX();
        test.badPrimes();
        test.badType();
        test.badCopy(2, 3);
        test.badCopy(0, 3);
    }

    // ---- the refused calls

    private void refused(String what, Class<? extends Exception> thrown, Ask ask) {
        CountedNumbers numbers = state.make();
        Checks.refused(what + " on " + name, thrown, () -> ask.of(numbers));
        List<String> told = Readout.of(numbers);
        Checks.same(what + " on " + name + " changes nothing", told.equals(due), true);
    }

    private void invalidText() {
        for (int function = 0; function < 4; function++) {
            int f = function;
            refused("define " + f, IllegalStateException.class, numbers -> numbers.define(f));
        }
        refused("leastToDefine", IllegalStateException.class, CountedNumbers::leastToDefine);
    }

    private void badType() {
        refused("type x", IllegalStateException.class, numbers -> numbers.type('x'));
        refused("type ?", IllegalStateException.class, numbers -> numbers.type('?'));
        refused("type 0", IllegalStateException.class, numbers -> numbers.type('\0'));
        refused("type the greatest", IllegalStateException.class, numbers -> numbers.type('\uffff'));
    }

    private void badCopy(int function, int other) {
        refused("copy " + function + " " + other, IllegalStateException.class,
                numbers -> numbers.copy(function, other));
    }

    private void badPrimes() {
        for (int prime : BAD_PRIMES) {
            refused("setModulus " + prime, IllegalArgumentException.class, numbers -> numbers.setModulus(prime));
        }
    }

    /** A bad function is thrown for first, whatever else is wrong: the text, or x. */
    private void badFunctions() {
        int prime = state.make().modulus();
        for (int bad : BAD_FUNCTIONS) {
            badFunction("define", bad, numbers -> numbers.define(bad));
            badFunction("copy to", bad, numbers -> numbers.copy(bad, 3));
            badFunction("copy from", bad, numbers -> numbers.copy(0, bad));
            badFunction("copy both", bad, numbers -> numbers.copy(bad, bad));
            badFunction("nodesOf", bad, numbers -> numbers.nodesOf(bad));
            badFunction("unlikeNodesOf", bad, numbers -> numbers.unlikeNodesOf(bad));
            badFunction("depthOf", bad, numbers -> numbers.depthOf(bad));
            badFunction("bansOf", bad, numbers -> numbers.bansOf(bad));
            badFunction("flatsOf", bad, numbers -> numbers.flatsOf(bad));
            badFunction("firstFlat", bad, numbers -> numbers.firstFlat(bad));
            badFunction("rootsOf", bad, numbers -> numbers.rootsOf(bad));
            badFunction("isSame first", bad, numbers -> numbers.isSame(bad, 0) ? 1 : 0);
            badFunction("isSame second", bad, numbers -> numbers.isSame(3, bad) ? 1 : 0);
            badFunction("isSame both", bad, numbers -> numbers.isSame(bad, bad) ? 1 : 0);
            for (int x : new int[] {0, -1, prime}) {
                badFunctionAt(bad, x);
            }
        }
    }

    private void badFunctionAt(int bad, int x) {
        badFunction("valueAt", bad, numbers -> numbers.valueAt(bad, x));
        badFunction("slopeByHinges", bad, numbers -> numbers.slopeByHinges(bad, x));
        badFunction("slopeByRules", bad, numbers -> numbers.slopeByRules(bad, x));
        badFunction("chainByProducts outer", bad, numbers -> numbers.chainByProducts(bad, 0, x));
        badFunction("chainByProducts inner", bad, numbers -> numbers.chainByProducts(3, bad, x));
        badFunction("chainByProducts both", bad, numbers -> numbers.chainByProducts(bad, bad, x));
        badFunction("chainByFeeding outer", bad, numbers -> numbers.chainByFeeding(bad, 0, x));
        badFunction("chainByFeeding inner", bad, numbers -> numbers.chainByFeeding(3, bad, x));
        badFunction("chainByFeeding both", bad, numbers -> numbers.chainByFeeding(bad, bad, x));
        badFunction("step", bad, numbers -> numbers.step(bad, x));
        badFunction("stepsToRoot", bad, numbers -> numbers.stepsToRoot(bad, x));
    }

    private void badFunction(String what, int bad, Ask ask) {
        refused(what + " " + bad, IndexOutOfBoundsException.class, ask);
    }

    private void badX() {
        int prime = state.make().modulus();
        int[] xs = {-1, -2, -prime, prime, prime + 1, 2 * prime, Integer.MAX_VALUE, Integer.MIN_VALUE};
        for (int bad : xs) {
            for (int function = 0; function < 4; function++) {
                badXOf(function, bad);
            }
        }
    }

    private void badXOf(int f, int bad) {
        badXOf("valueAt", bad, numbers -> numbers.valueAt(f, bad));
        badXOf("slopeByHinges", bad, numbers -> numbers.slopeByHinges(f, bad));
        badXOf("slopeByRules", bad, numbers -> numbers.slopeByRules(f, bad));
        badXOf("chainByProducts", bad, numbers -> numbers.chainByProducts(f, 3 - f, bad));
        badXOf("chainByFeeding", bad, numbers -> numbers.chainByFeeding(f, 3 - f, bad));
        badXOf("step", bad, numbers -> numbers.step(f, bad));
        badXOf("stepsToRoot", bad, numbers -> numbers.stepsToRoot(f, bad));
    }

    private void badXOf(String what, int bad, Ask ask) {
        refused(what + " at " + bad, IllegalArgumentException.class, ask);
    }
}
