/** Promises 1 to 4: a new object, define, copy, setModulus. */
public final class ActionsTest {
    public static void main(String[] args) {
        newObject();
        defineTellsAFunctionByTheText();
        defineRefuses();
        copyGivesTheExpression();
        copyRefuses();
        setModulusChangesTheModulus();
        setModulusRefuses();
        Checks.end();
    }

    private static void newObject() {
        HingeNumbers numbers = new HingeNumbers();
        Checks.same("NONE", HingeNumbers.NONE, -1);
        Checks.same("modulus at first", numbers.modulus(), 97);
        Checks.same("recorded states at first", numbers.recordedStates(), 0);
        Checks.same("error of the text at first", numbers.textError(), 0);
        Checks.same("length of the text at first", numbers.clearText(), 0);
        for (int function = 0; function < 4; function++) {
            Checks.same("nodes at first", numbers.nodesOf(function), 1);
            Checks.same("unlike nodes at first", numbers.unlikeNodesOf(function), 1);
            Checks.same("depth at first", numbers.depthOf(function), 1);
            for (int x = 0; x < 97; x++) {
                Checks.same("value at first", numbers.valueAt(function, x), x);
                Checks.same("slope at first", numbers.slopeByRules(function, x), 1);
            }
        }
        Checks.refused("snapshot at first", IllegalStateException.class, numbers::restoreSnapshot);
        HingeNumbers other = new HingeNumbers();
        Checks.define(numbers, 0, "5");
        Checks.same("objects do not share functions", other.valueAt(0, 3), 3);
    }

    private static void defineTellsAFunctionByTheText() {
        HingeNumbers numbers = new HingeNumbers();
        Checks.same("nodes of x^2-2", Checks.define(numbers, 0, "x^2-2"), 4);
        Checks.same("define records", numbers.recordedStates(), 1);
        Checks.same("f(10)", numbers.valueAt(0, 10), 1);
        Checks.same("the text stays", numbers.textError(), -1);
        Checks.same("the same text again", numbers.define(3), 4);
        Checks.same("k(10)", numbers.valueAt(3, 10), 1);
        Checks.same("the length of the text stays", numbers.clearText(), 5);
        Checks.same("others stay", numbers.valueAt(1, 10), 10);
        Checks.same("nodes of f(x)+f(1)", Checks.define(numbers, 1, "f(x)+f(1)"), 5);
        Checks.same("g(3)", numbers.valueAt(1, 3), 6);
        Checks.define(numbers, 0, "x+1");
        Checks.same("g follows f as it is now", numbers.valueAt(1, 3), 6);
        Checks.same("g(4) follows f as it is now", numbers.valueAt(1, 4), 7);
        Checks.same("nodes of ---...x", Checks.define(numbers, 0, Checks.repeated("-", 39) + "x"), 40);
        Checks.same("f(1) of 39 times -", numbers.valueAt(0, 1), 96);
        Checks.same("nodes of k(k) parts", Checks.define(numbers, 3, "f(g(h(x)))"), 4);
        Checks.same("define records, but four at the most", numbers.recordedStates(), 4);
    }

    private static void defineRefuses() {
        HingeNumbers numbers = new HingeNumbers();
        Checks.badState("define by an empty text", numbers, () -> numbers.define(0));
        Checks.outOfBounds("define -1 by an empty text", numbers, () -> numbers.define(-1));
        Checks.outOfBounds("define 4 by an empty text", numbers, () -> numbers.define(4));
        Checks.write(numbers, "x+");
        Checks.badState("define by x+", numbers, () -> numbers.define(3));
        Checks.same("the text stays when refused", numbers.type('1'), 3);
        Checks.same("and can be gone on with", numbers.define(0), 3);
        String letters = "fghk";
        for (int used = 0; used < 4; used++) {
            Checks.write(numbers, "1+" + letters.charAt(used) + "(2)");
            for (int function = 0; function <= used; function++) {
                int refused = function;
                Checks.badState("define " + function + " by " + used, numbers, () -> numbers.define(refused));
            }
            for (int function = used + 1; function < 4; function++) {
                Checks.same("define " + function + " by " + used, numbers.define(function), 4);
            }
            Checks.outOfBounds("define 4 by " + used, numbers, () -> numbers.define(4));
            Checks.outOfBounds("define least int", numbers, () -> numbers.define(Integer.MIN_VALUE));
            Checks.outOfBounds("define greatest int", numbers, () -> numbers.define(Integer.MAX_VALUE));
        }
        Checks.write(numbers, "f(g(h(f(x))))");
        Checks.badState("the greatest function counts", numbers, () -> numbers.define(2));
    }

    private static void copyGivesTheExpression() {
        HingeNumbers numbers = new HingeNumbers();
        Checks.define(numbers, 0, "x*x+3");
        Checks.same("copy answers the nodes", numbers.copy(2, 0), 5);
        Checks.same("copy records", numbers.recordedStates(), 2);
        Checks.same("h has the expression", numbers.valueAt(2, 5), 28);
        Checks.define(numbers, 0, "7");
        Checks.same("h keeps the expression", numbers.valueAt(2, 5), 28);
        Checks.same("copy to itself", numbers.copy(2, 2), 5);
        Checks.same("copy to itself records", numbers.recordedStates(), 4);
        Checks.define(numbers, 1, "f(x)+x");
        Checks.same("copy of what uses f", numbers.copy(3, 1), 4);
        Checks.define(numbers, 0, "x^3");
        Checks.same("k follows f, too", numbers.valueAt(3, 2), 10);
        Checks.same("copy down to g", numbers.copy(1, 3), 4);
        Checks.same("the text stays", numbers.clearText(), 3);
    }

    private static void copyRefuses() {
        HingeNumbers numbers = new HingeNumbers();
        Checks.define(numbers, 1, "f(x)");
        Checks.define(numbers, 3, "h(x)");
        Checks.outOfBounds("copy to 4", numbers, () -> numbers.copy(4, 0));
        Checks.outOfBounds("copy to -1", numbers, () -> numbers.copy(-1, 0));
        Checks.outOfBounds("copy from 4", numbers, () -> numbers.copy(0, 4));
        Checks.outOfBounds("copy from -1", numbers, () -> numbers.copy(0, -1));
        Checks.badState("copy f(x) to f", numbers, () -> numbers.copy(0, 1));
        Checks.badState("copy h(x) to h", numbers, () -> numbers.copy(2, 3));
        Checks.badState("copy h(x) to g", numbers, () -> numbers.copy(1, 3));
        Checks.same("copy f(x) to h", numbers.copy(2, 1), 2);
    }

    private static void setModulusChangesTheModulus() {
        HingeNumbers numbers = new HingeNumbers();
        Checks.define(numbers, 0, "x+200");
        int previous = 97;
        for (int prime = 2; prime <= 199; prime++) {
            if (java.math.BigInteger.valueOf(prime).isProbablePrime(30)) {
                Checks.same("previous modulus", numbers.setModulus(prime), previous);
                Checks.same("modulus", numbers.modulus(), prime);
                Checks.same("value modulo " + prime, numbers.valueAt(0, 1), 201 % prime);
                previous = prime;
            } else {
                int bad = prime;
                Checks.badArgument("setModulus(" + prime + ")", numbers, () -> numbers.setModulus(bad));
            }
        }
        Checks.same("the same modulus again", numbers.setModulus(199), 199);
        HingeNumbers other = new HingeNumbers();
        other.setModulus(97);
        Checks.same("the same modulus is recorded, too", other.recordedStates(), 1);
    }

    private static void setModulusRefuses() {
        HingeNumbers numbers = new HingeNumbers();
        int[] bad = {1, 0, -1, -2, -7, 200, 211, 223, 1009, Integer.MAX_VALUE, Integer.MIN_VALUE};
        for (int prime : bad) {
            Checks.badArgument("setModulus(" + prime + ")", numbers, () -> numbers.setModulus(prime));
        }
        Checks.same("nothing is recorded", numbers.recordedStates(), 0);
    }
}
