/** Promises 12 to 14: nodesOf, unlikeNodesOf, depthOf. */
public final class ExpressionTest {
    public static void main(String[] args) {
        countsAndDepths();
        countsDoNotDependOnTheModulus();
        eachFunctionHasItsOwn();
        refusals();
        Checks.end();
    }

    private static void countsAndDepths() {
        // text, nodes, unlike nodes, depth
        Object[][] due = {
            {"x", 1, 1, 1}, {"7", 1, 1, 1}, {"(((x)))", 1, 1, 1}, {"-x", 2, 2, 2}, {"--x", 3, 3, 3}, {"x^2", 2, 2, 2},
            {"x+x", 3, 2, 2}, {"x+1", 3, 3, 2}, {"x+1-x-1", 7, 5, 4}, {"x+1+(x+1)", 7, 4, 3}, {"x+1+(1+x)", 7, 5, 3},
            {"x^2+x^2", 5, 3, 3}, {"x^2+x^3", 5, 4, 3}, {"2^2", 2, 2, 2}, {"2+2^2", 4, 3, 3}, {"12+21-12", 5, 4, 3},
            {"f(x)", 2, 2, 2}, {"f(x)+g(x)", 5, 4, 3}, {"f(x)+f(x)", 5, 3, 3}, {"f(g(f(x)))", 4, 4, 4},
            {"f(x+1)*f((x+1))", 9, 5, 4}, {"x-x/x*x", 7, 4, 4}, {"-x-x", 4, 3, 3}, {"-x^2", 3, 3, 3},
            {"-(x^2)", 3, 3, 3}, {"x*x+x*x", 7, 3, 3}, {"x/x+x*x", 7, 4, 3}, {"1-2-3", 5, 5, 3}, {"1-(2-3)", 5, 5, 3},
            {"x*(x+1)", 5, 4, 3}, {"-5+-5", 5, 3, 3}, {"-51+-5", 5, 5, 3}, {"10+1+0", 5, 5, 3},
            {"x-x-x-x-x-x-x-x-x-x-x-x-x-x-x-x-x-x-x-x", 39, 20, 20}};
        for (Object[] row : due) {
            CountedNumbers numbers = new CountedNumbers();
            Checks.same("define by " + row[0], Checks.define(numbers, 2, (String) row[0]), (Integer) row[1]);
            Checks.same("nodes of " + row[0], numbers.nodesOf(2), (Integer) row[1]);
            Checks.same("unlike nodes of " + row[0], numbers.unlikeNodesOf(2), (Integer) row[2]);
            Checks.same("depth of " + row[0], numbers.depthOf(2), (Integer) row[3]);
            numbers.copy(3, 2);
            Checks.same("nodes of the copy", numbers.nodesOf(3), (Integer) row[1]);
            Checks.same("unlike nodes of the copy", numbers.unlikeNodesOf(3), (Integer) row[2]);
            Checks.same("depth of the copy", numbers.depthOf(3), (Integer) row[3]);
            Checks.same("nodes of another", numbers.nodesOf(0), 1);
        }
        CountedNumbers numbers = new CountedNumbers();
        Checks.define(numbers, 0, "x*x*x");
        Checks.define(numbers, 1, "f(x)");
        Checks.same("the nodes of f are none of g", numbers.nodesOf(1), 2);
        Checks.same("nor are they in its depth", numbers.depthOf(1), 2);
    }

    private static void countsDoNotDependOnTheModulus() {
        CountedNumbers numbers = new CountedNumbers();
        Checks.define(numbers, 0, "1+8+x");
        numbers.setModulus(7);
        Checks.same("1 and 8 are other numbers, also modulo 7", numbers.unlikeNodesOf(0), 5);
    }

    // "function: 0 to 3": the first and the last, and what actions make of them
    private static void eachFunctionHasItsOwn() {
        CountedNumbers numbers = Checks.told(97, "x-x-x", "f(x)", "-x+1", "f(x)^2-(3+f(x))");
        of(numbers, 0, 5, 3, 3);
        of(numbers, 1, 2, 2, 2);
        of(numbers, 2, 4, 4, 3);
        of(numbers, 3, 8, 6, 4);
        numbers.takeSnapshot();
        numbers.copy(0, 2);
        of(numbers, 0, 4, 4, 3);
        Checks.define(numbers, 3, "10");
        of(numbers, 3, 1, 1, 1);
        numbers.undo();
        of(numbers, 3, 8, 6, 4);
        numbers.undo();
        of(numbers, 0, 5, 3, 3);
        numbers.copy(2, 3);
        of(numbers, 2, 8, 6, 4);
        numbers.restoreSnapshot();
        of(numbers, 2, 4, 4, 3);
    }

    private static void of(CountedNumbers numbers, int function, int nodes, int unlike, int depth) {
        Checks.same("nodes of " + function, numbers.nodesOf(function), nodes);
        Checks.same("unlike nodes of " + function, numbers.unlikeNodesOf(function), unlike);
        Checks.same("depth of " + function, numbers.depthOf(function), depth);
    }

    // "Throws IndexOutOfBoundsException if there is no such function"
    private static void refusals() {
        CountedNumbers numbers = new CountedNumbers();
        int[] bad = {-1, 4, 5, Integer.MAX_VALUE, Integer.MIN_VALUE};
        for (int function : bad) {
            Checks.outOfBounds("nodesOf(" + function + ")", () -> numbers.nodesOf(function));
            Checks.outOfBounds("unlikeNodesOf(" + function + ")", () -> numbers.unlikeNodesOf(function));
            Checks.outOfBounds("depthOf(" + function + ")", () -> numbers.depthOf(function));
        }
    }
}
