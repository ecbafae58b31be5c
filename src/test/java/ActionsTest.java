/** Promises 1 to 4: a new object, define, copy, setModulus. */
public final class ActionsTest {
    public static void main(String[] args) {
        newObject();
        objectsAreOnTheirOwn();
        defineTellsAFunctionByTheText();
        defineAnswersTheNodes();
        defineLeavesTheText();
        defineRefuses();
        defineThrowsWhatIsListedFirst();
        copyOnANewObject();
        copyGivesTheExpression();
        copyGoesUpToTheFunctionThatIsUsed();
        copyRefuses();
        setModulusAnswersThePreviousOne();
        setModulusChangesAllFunctions();
        setModulusRefuses();
        Checks.end();
    }

    // Promise 1: "Creates four functions that are told by "x"."
    private static void newObject() {
        Checks.same("NONE", HingeNumbers.NONE, -1);
        CountedNumbers numbers = new CountedNumbers();
        Checks.same("modulus at first", numbers.modulus(), 97);
        Checks.same("recorded states at first", numbers.recordedStates(), 0);
        Checks.same("error of the text at first", numbers.textError(), 0);
        Checks.same("length of the text at first", numbers.clearText(), 0);
        Checks.badState("undo at first", numbers::undo);
        Checks.badState("snapshot at first", numbers::restoreSnapshot);
        for (int function = 0; function < 4; function++) {
            Checks.same("nodes at first", numbers.nodesOf(function), 1);
            Checks.same("unlike nodes at first", numbers.unlikeNodesOf(function), 1);
            Checks.same("depth at first", numbers.depthOf(function), 1);
            CountedNumbers others = new CountedNumbers();
            for (int x = 0; x < 97; x++) {
                Checks.same("value at first", others.valueAt(function, x), x);
                Checks.same("slope by hinges at first", others.slopeByHinges(function, x), 1);
                Checks.same("slope by rules at first", others.slopeByRules(function, x), 1);
            }
        }
    }

    private static void objectsAreOnTheirOwn() {
        CountedNumbers one = Checks.told(7, "5", "f(x)+1");
        one.takeSnapshot();
        CountedNumbers other = new CountedNumbers();
        Checks.same("modulus of another object", other.modulus(), 97);
        Checks.same("f of another object", other.valueAt(0, 3), 3);
        Checks.same("text of another object", other.clearText(), 0);
        Checks.same("recorded states of another object", other.recordedStates(), 0);
        Checks.badState("snapshot of another object", other::restoreSnapshot);
        Checks.define(other, 0, "x*2");
        other.setModulus(11);
        Checks.same("modulus of the first object", one.modulus(), 7);
        Checks.same("g of the first object", one.valueAt(1, 3), 6);
    }

    // Promise 2: "Defines a function by the text. ... This is an action."
    private static void defineTellsAFunctionByTheText() {
        CountedNumbers numbers = new CountedNumbers();
        Checks.define(numbers, 0, "x^2-2");
        Checks.same("define records", numbers.recordedStates(), 1);
        Checks.same("f(10)", numbers.valueAt(0, 10), 1);
        for (int other = 1; other < 4; other++) {
            Checks.same("others stay", numbers.valueAt(other, 10), 10);
        }
        Checks.same("the same text for k", numbers.define(3), 4);
        Checks.same("k(10)", numbers.valueAt(3, 10), 1);
        Checks.same("define records again", numbers.recordedStates(), 2);
        Checks.same("the same text for f again", numbers.define(0), 4);
        Checks.same("define records, also what changes nothing", numbers.recordedStates(), 3);
        Checks.define(numbers, 1, "f(x)+f(1)");
        Checks.same("g(3)", numbers.valueAt(1, 3), 6);
        Checks.same("four are recorded", numbers.recordedStates(), 4);
        Checks.define(numbers, 2, "x");
        Checks.same("define records, but four at the most", numbers.recordedStates(), 4);
        Checks.define(numbers, 3, "x");
        Checks.same("k(10) then", numbers.valueAt(3, 10), 10);
    }

    // "Returns the number of nodes of its expression."
    private static void defineAnswersTheNodes() {
        for (int function = 0; function < 4; function++) {
            CountedNumbers numbers = new CountedNumbers();
            Checks.same("nodes of a number", Checks.define(numbers, function, "999"), 1);
            Checks.same("nodes of (x)", Checks.define(numbers, function, "(x)"), 1);
            Checks.same("nodes of x^2-2", Checks.define(numbers, function, "x^2-2"), 4);
            Checks.same("nodes of a text of 39", Checks.define(numbers, function, Checks.repeated("-", 38) + "x"), 39);
            Checks.same("nodes of a text of 40", Checks.define(numbers, function, Checks.repeated("-", 39) + "x"), 40);
            Checks.same("value of 39 times -", numbers.valueAt(function, 1), 96);
        }
        CountedNumbers numbers = new CountedNumbers();
        Checks.same("nodes of f(x)+f(1)", Checks.define(numbers, 1, "f(x)+f(1)"), 5);
        Checks.same("nodes of f(g(h(x)))", Checks.define(numbers, 3, "f(g(h(x)))"), 4);
    }

    // "The text stays as it is."
    private static void defineLeavesTheText() {
        CountedNumbers numbers = new CountedNumbers();
        Checks.define(numbers, 0, "x^2-2");
        Checks.same("the text is valid still", numbers.textError(), -1);
        Checks.same("it can be gone on with", numbers.type('5'), 6);
        Checks.same("and be defined by", numbers.define(1), 4);
        Checks.same("f keeps what it was defined by", numbers.valueAt(0, 10), 1);
        Checks.same("g(10)", numbers.valueAt(1, 10), 75);
        Checks.same("its length stays", numbers.clearText(), 6);
        Checks.same("f is kept when the text is cleared", numbers.valueAt(0, 10), 1);
        Checks.define(numbers, 2, Checks.repeated("-", 39) + "x");
        Checks.badState("the text is full still", () -> numbers.type('x'));
        Checks.same("its length stays when it is full", numbers.clearText(), 40);
    }

    // "Throws IndexOutOfBoundsException if there is no such function", "Throws
    // IllegalStateException if the text is not valid, or uses a function whose number is not less"
    private static void defineRefuses() {
        String[] invalid = {"", "x+", "x)", "(x", "01", "1000", "x^10", "f", "f(", "x ", "y"};
        for (String text : invalid) {
            for (int function = 0; function < 4; function++) {
                CountedNumbers numbers = new CountedNumbers();
                Checks.write(numbers, text);
                int f = function;
                Checks.badState("define " + f + " by " + text, () -> numbers.define(f));
                Checks.same("nothing is recorded", numbers.recordedStates(), 0);
                Checks.same("the text stays when refused", numbers.clearText(), text.length());
            }
        }
        String letters = "fghk";
        for (int used = 0; used < 4; used++) {
            CountedNumbers numbers = new CountedNumbers();
            Checks.write(numbers, "1+" + letters.charAt(used) + "(2)");
            for (int function = 0; function <= used; function++) {
                int refused = function;
                Checks.badState("define " + function + " by " + used, () -> numbers.define(refused));
            }
            Checks.same("nothing is recorded", numbers.recordedStates(), 0);
            for (int function = used + 1; function < 4; function++) {
                Checks.same("define " + function + " by " + used, numbers.define(function), 4);
            }
        }
        CountedNumbers numbers = new CountedNumbers();
        Checks.write(numbers, "f(g(h(f(x))))");
        Checks.badState("the greatest function counts", () -> numbers.define(2));
        Checks.same("not the first one", numbers.define(3), 5);
        Checks.write(numbers, "h(x)+f(x)");
        Checks.badState("nor the last one", () -> numbers.define(1));
    }

    private static void defineThrowsWhatIsListedFirst() {
        String[] texts = {"", "x+", "y", "k(x)", "x"};
        int[] bad = {-1, 4, Integer.MAX_VALUE, Integer.MIN_VALUE};
        for (String text : texts) {
            CountedNumbers numbers = new CountedNumbers();
            Checks.write(numbers, text);
            for (int function : bad) {
                Checks.outOfBounds("define " + function + " by " + text, () -> numbers.define(function));
            }
        }
    }

    /** The first expression, "x", uses no function, so that each function may get it. */
    private static void copyOnANewObject() {
        for (int function = 0; function < 4; function++) {
            for (int other = 0; other < 4; other++) {
                CountedNumbers numbers = new CountedNumbers();
                Checks.same("copy " + function + " " + other, numbers.copy(function, other), 1);
                Checks.same("copy is recorded", numbers.recordedStates(), 1);
                Checks.same("nodes", numbers.nodesOf(function), 1);
                Checks.same("value", numbers.valueAt(function, 96), 96);
            }
        }
    }

    // Promise 3: "Gives a function the expression of another one. This is an action."
    private static void copyGivesTheExpression() {
        CountedNumbers numbers = new CountedNumbers();
        Checks.define(numbers, 0, "x*x+3");
        Checks.same("copy answers the nodes", numbers.copy(2, 0), 5);
        Checks.same("copy records", numbers.recordedStates(), 2);
        Checks.same("h has the expression", numbers.valueAt(2, 5), 28);
        Checks.same("f has it, too", numbers.valueAt(0, 5), 28);
        Checks.same("g has it not", numbers.valueAt(1, 5), 5);
        Checks.define(numbers, 0, "7");
        Checks.same("h keeps the expression", numbers.valueAt(2, 5), 28);
        Checks.same("copy to itself", numbers.copy(2, 2), 5);
        Checks.same("copy to itself records", numbers.recordedStates(), 4);
        numbers.undo();
        Checks.same("nothing was changed by it", numbers.valueAt(2, 5), 28);
        Checks.define(numbers, 1, "f(x)+x");
        Checks.same("copy of what uses f", numbers.copy(3, 1), 4);
        Checks.define(numbers, 0, "x^3");
        Checks.same("k follows f, too", numbers.valueAt(3, 2), 10);
        Checks.same("the text stays", numbers.clearText(), 3);
        CountedNumbers others = Checks.told(97, "1", "2", "3", "4");
        for (int function = 0; function < 4; function++) {
            for (int other = 0; other < 4; other++) {
                Checks.same("nodes of the copy", others.copy(function, other), 1);
                Checks.same("copy " + function + " " + other, others.valueAt(function, 0), other + 1);
                Checks.same("the other stays", others.valueAt(other, 0), other + 1);
                others.undo();
            }
        }
    }

    // "if the expression uses a function whose number is not less than that of the first one"
    private static void copyGoesUpToTheFunctionThatIsUsed() {
        String letters = "fghk";
        for (int used = 0; used < 3; used++) {
            for (int other = used + 1; other < 4; other++) {
                CountedNumbers numbers = new CountedNumbers();
                Checks.define(numbers, other, "2*" + letters.charAt(used) + "(x)");
                for (int function = 0; function <= used; function++) {
                    int f = function;
                    int from = other;
                    Checks.badState("copy " + f + " " + from, () -> numbers.copy(f, from));
                    Checks.same("nothing is copied", numbers.valueAt(f, 5), 5);
                    Checks.same("nothing is recorded", numbers.recordedStates(), 1);
                }
                for (int function = used + 1; function < 4; function++) {
                    Checks.same("copy " + function + " " + other, numbers.copy(function, other), 4);
                    Checks.same("its value", numbers.valueAt(function, 5), 10);
                }
            }
        }
    }

    private static void copyRefuses() {
        CountedNumbers numbers = Checks.told(97, "x", "f(x)", "x", "h(x)");
        int[] bad = {-1, 4, Integer.MAX_VALUE, Integer.MIN_VALUE};
        for (int function : bad) {
            Checks.outOfBounds("copy to " + function, () -> numbers.copy(function, 3));
            Checks.outOfBounds("copy from " + function, () -> numbers.copy(0, function));
            Checks.outOfBounds("copy both " + function, () -> numbers.copy(function, function));
        }
    }

    // Promise 4: "Changes the modulus.", "Returns the previous modulus."
    private static void setModulusAnswersThePreviousOne() {
        CountedNumbers numbers = new CountedNumbers();
        Checks.same("the first modulus", numbers.setModulus(2), 97);
        Checks.same("the least modulus", numbers.setModulus(199), 2);
        Checks.same("the greatest modulus", numbers.setModulus(199), 199);
        Checks.same("the same modulus is recorded, too", numbers.recordedStates(), 3);
        Checks.same("back to the first", numbers.setModulus(97), 199);
        Checks.same("which is there", numbers.modulus(), 97);
        numbers.undo();
        Checks.same("the modulus before", numbers.setModulus(3), 199);
        CountedNumbers others = new CountedNumbers();
        Checks.badArgument("setModulus 4", () -> others.setModulus(4));
        Checks.same("a refused one is no previous one", others.setModulus(5), 97);
    }

    private static void setModulusChangesAllFunctions() {
        for (int prime : Checks.PRIMES) {
            CountedNumbers numbers = new CountedNumbers();
            Checks.define(numbers, 0, "x+200");
            Checks.define(numbers, 1, "f(x)*2");
            Checks.same("value at first", numbers.valueAt(1, 1), 402 % 97);
            numbers.setModulus(prime);
            Checks.same("value modulo " + prime, numbers.valueAt(0, 1), 201 % prime);
            Checks.same("value of a function of it", numbers.valueAt(1, 1), 402 % prime);
            Checks.same("nodes stay", numbers.nodesOf(1), 4);
            Checks.same("the text stays", numbers.clearText(), 6);
        }
    }

    // "Throws IllegalArgumentException if prime is none, or out of range"
    private static void setModulusRefuses() {
        CountedNumbers numbers = new CountedNumbers();
        int[] bad = {1, 0, -1, -2, -7, 4, 9, 121, 169, 189, 196, 198, 200, 211, 223, 1009, Integer.MAX_VALUE,
            Integer.MIN_VALUE};
        for (int prime : bad) {
            Checks.badArgument("setModulus(" + prime + ")", () -> numbers.setModulus(prime));
        }
        Checks.same("nothing is recorded", numbers.recordedStates(), 0);
        Checks.same("the modulus stays", numbers.modulus(), 97);
    }
}
