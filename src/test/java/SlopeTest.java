/** Promises 15 to 20: modulus, valueAt, the slopes and the chains. */
public final class SlopeTest {
    public static void main(String[] args) {
        modulus();
        valuesAndSlopes();
        numbersAboveTheModulus();
        functionsOfFunctions();
        bannedValues();
        chains();
        refusals();
        Checks.end();
    }

    private static void modulus() {
        HingeNumbers numbers = new HingeNumbers();
        Checks.same("modulus", numbers.modulus(), 97);
        numbers.setModulus(199);
        Checks.same("modulus", numbers.modulus(), 199);
        numbers.undo();
        Checks.same("modulus", numbers.modulus(), 97);
    }

    private static void at(int prime, String text, int x, int value, int slope) {
        HingeNumbers numbers = new HingeNumbers();
        numbers.setModulus(prime);
        Checks.define(numbers, 0, text);
        String where = text + " at " + x + " modulo " + prime;
        Checks.same("hinges: " + where, numbers.slopeByHinges(0, x), slope);
        Checks.same("value: " + where, numbers.valueAt(0, x), value);
        Checks.same("rules: " + where, numbers.slopeByRules(0, x), slope);
        numbers.setModulus(prime);
        Checks.same("rules first: " + where, numbers.slopeByRules(0, x), slope);
        Checks.same("value then: " + where, numbers.valueAt(0, x), value);
        Checks.same("hinges last: " + where, numbers.slopeByHinges(0, x), slope);
    }

    private static void valuesAndSlopes() {
        at(97, "5", 3, 5, 0);
        at(97, "x", 3, 3, 1);
        at(97, "-x", 3, 94, 96);
        at(97, "x+x", 50, 3, 2);
        at(97, "1-x", 3, 95, 96);
        at(97, "x-1", 0, 96, 1);
        at(97, "x*x", 10, 3, 20);
        at(97, "(x+1)*(x+2)", 3, 20, 9);
        at(97, "1/x", 2, 49, 24);
        at(97, "x/(x+1)", 1, 49, 73);
        at(97, "(x+1)/2", 3, 2, 49);
        at(97, "x^2-2", 10, 1, 20);
        at(97, "-x^2", 3, 9, 6);
        at(97, "-(x^2)", 3, 88, 91);
        at(97, "2-x^2", 3, 90, 91);
        at(97, "x^0", 0, 1, 0);
        at(97, "x^1", 0, 0, 1);
        at(97, "x^1", 7, 7, 1);
        at(97, "x^9", 2, 27, 9 * 256 % 97);
        at(97, "(2*x+1)^3", 1, 27, 54);
        at(97, "10-3-2", 0, 5, 0);
        at(97, "x-x-x", 5, 92, 96);
        at(97, "100/10/5", 0, 2, 0);
        at(97, "2*x^3", 2, 16, 24);
        at(97, "12/x*x", 4, 12, 0);
        at(97, "12/(x*x)", 2, 3, 94);
        at(97, "x^2/x", 5, 5, 1);
        at(97, "--x", 5, 5, 1);
        at(97, "3--x", 5, 8, 1);
        at(97, "2*-x", 5, 87, 95);
        at(2, "x^2", 1, 1, 0);
        at(2, "x^3", 1, 1, 1);
        at(2, "1/x", 1, 1, 1);
        at(2, "-x", 1, 1, 1);
        at(3, "x^3+x", 2, 1, 1);
        at(7, "x^7", 3, 3, 0);
        at(7, "x^8", 3, 2, 3);
        at(199, "x*x", 198, 1, 197);
        at(199, "198/x", 198, 1, 1);
    }

    private static void numbersAboveTheModulus() {
        at(97, "97+x", 1, 1, 1);
        at(97, "x*100", 1, 3, 3);
        at(97, "x/97", 1, -1, -1);
        at(7, "x/21", 1, -1, -1);
        at(199, "999", 1, 999 % 199, 0);
        at(2, "999+x", 1, 0, 1);
        at(5, "10^0", 1, 1, 0);
        at(5, "x^5", 2, 2, 0);
    }

    private static void functionsOfFunctions() {
        HingeNumbers numbers = new HingeNumbers();
        Checks.define(numbers, 0, "x^2+1");
        Checks.define(numbers, 1, "f(3*x)");
        Checks.define(numbers, 2, "g(x)*f(x)");
        Checks.define(numbers, 3, "h(g(f(x)))/2");
        Checks.same("g(2)", numbers.valueAt(1, 2), 37);
        Checks.same("slope of g at 2", numbers.slopeByHinges(1, 2), 36);
        Checks.same("slope of g at 2 by rules", numbers.slopeByRules(1, 2), 36);
        Checks.same("h(2)", numbers.valueAt(2, 2), 37 * 5 % 97);
        Checks.same("slope of h at 2", numbers.slopeByHinges(2, 2), (36 * 5 + 37 * 4) % 97);
        Checks.same("slope of h at 2 by rules", numbers.slopeByRules(2, 2), (36 * 5 + 37 * 4) % 97);
        for (int x = 0; x < 97; x++) {
            Checks.same("slopes of k agree", numbers.slopeByRules(3, x), numbers.slopeByHinges(3, x));
        }
        numbers.copy(3, 0);
        Checks.define(numbers, 0, "x*5");
        Checks.same("slope of g with another f", numbers.slopeByHinges(1, 2), 15);
        Checks.same("slope of g with another f by rules", numbers.slopeByRules(1, 2), 15);
        numbers.undo();
        Checks.same("slope of g with the old f", numbers.slopeByHinges(1, 2), 36);
        Checks.same("slope of g with the old f by rules", numbers.slopeByRules(1, 2), 36);
    }

    private static void bannedValues() {
        at(97, "1/x", 0, -1, -1);
        at(97, "0/x", 0, -1, -1);
        at(97, "0*(1/x)", 0, -1, -1);
        at(97, "(1/x)^0", 0, -1, -1);
        at(97, "1/x-1/x", 0, -1, -1);
        at(97, "5+1/(x-3)", 3, -1, -1);
        at(97, "1/(1/x)", 0, -1, -1);
        at(97, "x^0/x^0", 0, 1, 0);
        at(97, "x/x", 0, -1, -1);
        HingeNumbers numbers = new HingeNumbers();
        Checks.define(numbers, 0, "5");
        Checks.define(numbers, 1, "f(1/x)");
        Checks.define(numbers, 2, "1/(x-4)");
        Checks.define(numbers, 3, "0*h(x+1)");
        Checks.same("a banned part of a function that does not matter", numbers.valueAt(1, 0), -1);
        Checks.same("its slope by hinges", numbers.slopeByHinges(1, 0), -1);
        Checks.same("its slope by rules", numbers.slopeByRules(1, 0), -1);
        Checks.same("where it is not banned", numbers.valueAt(1, 1), 5);
        Checks.same("a banned function that does not matter", numbers.valueAt(3, 3), -1);
        Checks.same("its slope by hinges", numbers.slopeByHinges(3, 3), -1);
        Checks.same("its slope by rules", numbers.slopeByRules(3, 3), -1);
        Checks.same("where it is not banned", numbers.valueAt(3, 4), 0);
        Checks.same("its slope there", numbers.slopeByHinges(3, 4), 0);
    }

    private static void chains() {
        HingeNumbers numbers = new HingeNumbers();
        Checks.define(numbers, 0, "x^2");
        Checks.define(numbers, 1, "3*x+1");
        Checks.define(numbers, 2, "1/(x-4)");
        Checks.define(numbers, 3, "f(x)/g(x)");
        both(numbers, 0, 1, 1, 24);
        both(numbers, 1, 0, 1, 6);
        both(numbers, 0, 0, 2, 32);
        both(numbers, 1, 1, 50, 9);
        both(numbers, 2, 1, 1, -1);
        both(numbers, 2, 0, 2, -1);
        both(numbers, 1, 2, 4, -1);
        both(numbers, 2, 2, 4, -1);
        for (int x = 0; x < 97; x++) {
            for (int pair = 0; pair < 16; pair++) {
                Checks.same("the chains agree", numbers.chainByFeeding(pair / 4, pair % 4, x),
                        numbers.chainByProducts(pair / 4, pair % 4, x));
            }
        }
        Checks.define(numbers, 0, "0");
        both(numbers, 0, 2, 4, -1);
        both(numbers, 2, 0, 0, 0);
        both(numbers, 0, 1, 3, 0);
    }

    private static void both(HingeNumbers numbers, int outer, int inner, int x, int slope) {
        String what = " of " + outer + " of " + inner + " at " + x;
        Checks.same("by products" + what, numbers.chainByProducts(outer, inner, x), slope);
        Checks.same("by feeding" + what, numbers.chainByFeeding(outer, inner, x), slope);
    }

    private static void refusals() {
        HingeNumbers numbers = new HingeNumbers();
        numbers.setModulus(5);
        int[] bad = {-1, 4, 97, Integer.MAX_VALUE, Integer.MIN_VALUE};
        for (int f : bad) {
            Checks.outOfBounds("valueAt", numbers, () -> numbers.valueAt(f, 0));
            Checks.outOfBounds("valueAt, x bad too", numbers, () -> numbers.valueAt(f, 5));
            Checks.outOfBounds("slopeByHinges", numbers, () -> numbers.slopeByHinges(f, 0));
            Checks.outOfBounds("slopeByHinges, x bad too", numbers, () -> numbers.slopeByHinges(f, -1));
            Checks.outOfBounds("slopeByRules", numbers, () -> numbers.slopeByRules(f, 0));
            Checks.outOfBounds("slopeByRules, x bad too", numbers, () -> numbers.slopeByRules(f, 5));
            Checks.outOfBounds("chainByProducts outer", numbers, () -> numbers.chainByProducts(f, 0, 5));
            Checks.outOfBounds("chainByProducts inner", numbers, () -> numbers.chainByProducts(0, f, -1));
            Checks.outOfBounds("chainByFeeding outer", numbers, () -> numbers.chainByFeeding(f, 0, 5));
            Checks.outOfBounds("chainByFeeding inner", numbers, () -> numbers.chainByFeeding(0, f, -1));
            Checks.outOfBounds("chainByFeeding inner, x good", numbers, () -> numbers.chainByFeeding(3, f, 1));
        }
        int[] badX = {-1, 5, 6, 96, Integer.MAX_VALUE, Integer.MIN_VALUE};
        for (int x : badX) {
            Checks.badArgument("valueAt " + x, numbers, () -> numbers.valueAt(0, x));
            Checks.badArgument("slopeByHinges " + x, numbers, () -> numbers.slopeByHinges(1, x));
            Checks.badArgument("slopeByRules " + x, numbers, () -> numbers.slopeByRules(2, x));
            Checks.badArgument("chainByProducts " + x, numbers, () -> numbers.chainByProducts(0, 3, x));
            Checks.badArgument("chainByFeeding " + x, numbers, () -> numbers.chainByFeeding(3, 0, x));
        }
        Checks.same("the greatest x", numbers.valueAt(3, 4), 4);
        numbers.undo();
        Checks.same("the greatest x modulo 97", numbers.valueAt(3, 96), 96);
    }
}
