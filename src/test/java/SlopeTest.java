/** Promises 15 to 20: modulus, valueAt, the slopes and the chains. */
public final class SlopeTest {
    public static void main(String[] args) {
        modulus();
        valuesAndSlopes();
        numbersAboveTheModulus();
        functionsOfFunctions();
        bannedValues();
        chains();
        chainsAgreeEverywhere();
        chainsOfBannedValues();
        chainsAtTheEndsOfX();
        lastGoodXAndFirstBadX();
        rangeOfXFollowsTheModulus();
        functionIsLookedAtFirst();
        Checks.end();
    }

    private static void modulus() {
        CountedNumbers numbers = new CountedNumbers();
        Checks.same("modulus", numbers.modulus(), 97);
        numbers.setModulus(199);
        Checks.same("modulus", numbers.modulus(), 199);
        numbers.undo();
        Checks.same("modulus", numbers.modulus(), 97);
    }

    private static void at(int prime, String text, int x, int value, int slope) {
        CountedNumbers numbers = new CountedNumbers();
        numbers.setModulus(prime);
        Checks.define(numbers, 0, text);
        String where = text + " at " + x + " modulo " + prime;
        Checks.same("hinges: " + where, numbers.slopeByHinges(0, x), slope);
        Checks.same("value: " + where, numbers.valueAt(0, x), value);
        Checks.same("rules: " + where, numbers.slopeByRules(0, x), slope);
        numbers.setModulus(prime);
        Checks.same("rules first: " + where, numbers.slopeByRules(0, x), slope);
        Checks.same("value then: " + where, numbers.valueAt(0, x), value);
        Checks.same("hinges last: " + where, numbers.slopeByHinges(0, x), slope);
    }

    private static void valuesAndSlopes() {
        at(97, "5", 3, 5, 0);
        at(97, "x", 3, 3, 1);
        at(97, "-x", 3, 94, 96);
        at(97, "x+x", 50, 3, 2);
        at(97, "1-x", 3, 95, 96);
        at(97, "x-1", 0, 96, 1);
        at(97, "x*x", 10, 3, 20);
        at(97, "(x+1)*(x+2)", 3, 20, 9);
        at(97, "1/x", 2, 49, 24);
        at(97, "x/(x+1)", 1, 49, 73);
        at(97, "(x+1)/2", 3, 2, 49);
        at(97, "x^2-2", 10, 1, 20);
        at(97, "-x^2", 3, 9, 6);
        at(97, "-(x^2)", 3, 88, 91);
        at(97, "2-x^2", 3, 90, 91);
        at(97, "x^0", 0, 1, 0);
        at(97, "x^1", 0, 0, 1);
        at(97, "x^1", 7, 7, 1);
        at(97, "x^9", 2, 27, 9 * 256 % 97);
        at(97, "(2*x+1)^3", 1, 27, 54);
        at(97, "10-3-2", 0, 5, 0);
        at(97, "x-x-x", 5, 92, 96);
        at(97, "100/10/5", 0, 2, 0);
        at(97, "2*x^3", 2, 16, 24);
        at(97, "12/x*x", 4, 12, 0);
        at(97, "12/(x*x)", 2, 3, 94);
        at(97, "x^2/x", 5, 5, 1);
        at(97, "--x", 5, 5, 1);
        at(97, "3--x", 5, 8, 1);
        at(97, "2*-x", 5, 87, 95);
        at(2, "x^2", 1, 1, 0);
        at(2, "x^3", 1, 1, 1);
        at(2, "1/x", 1, 1, 1);
        at(2, "-x", 1, 1, 1);
        at(3, "x^3+x", 2, 1, 1);
        at(7, "x^7", 3, 3, 0);
        at(7, "x^8", 3, 2, 3);
        at(199, "x*x", 198, 1, 197);
        at(199, "198/x", 198, 1, 1);
    }

    private static void numbersAboveTheModulus() {
        at(97, "97+x", 1, 1, 1);
        at(97, "x*100", 1, 3, 3);
        at(97, "x/97", 1, -1, -1);
        at(7, "x/21", 1, -1, -1);
        at(199, "999", 1, 999 % 199, 0);
        at(2, "999+x", 1, 0, 1);
        at(5, "10^0", 1, 1, 0);
        at(5, "x^5", 2, 2, 0);
    }

    private static void functionsOfFunctions() {
        CountedNumbers numbers = new CountedNumbers();
        Checks.define(numbers, 0, "x^2+1");
        Checks.define(numbers, 1, "f(3*x)");
        Checks.define(numbers, 2, "g(x)*f(x)");
        Checks.define(numbers, 3, "h(g(f(x)))/2");
        Checks.same("g(2)", numbers.valueAt(1, 2), 37);
        Checks.same("slope of g at 2", numbers.slopeByHinges(1, 2), 36);
        Checks.same("slope of g at 2 by rules", numbers.slopeByRules(1, 2), 36);
        Checks.same("h(2)", numbers.valueAt(2, 2), 37 * 5 % 97);
        Checks.same("slope of h at 2", numbers.slopeByHinges(2, 2), (36 * 5 + 37 * 4) % 97);
        Checks.same("slope of h at 2 by rules", numbers.slopeByRules(2, 2), (36 * 5 + 37 * 4) % 97);
        for (int x = 0; x < 97; x++) {
            Checks.same("slopes of k agree", numbers.slopeByRules(3, x), numbers.slopeByHinges(3, x));
        }
        numbers.copy(3, 0);
        Checks.define(numbers, 0, "x*5");
        Checks.same("slope of g with another f", numbers.slopeByHinges(1, 2), 15);
        Checks.same("slope of g with another f by rules", numbers.slopeByRules(1, 2), 15);
        numbers.undo();
        Checks.same("slope of g with the old f", numbers.slopeByHinges(1, 2), 36);
        Checks.same("slope of g with the old f by rules", numbers.slopeByRules(1, 2), 36);
    }

    private static void bannedValues() {
        at(97, "1/x", 0, -1, -1);
        at(97, "0/x", 0, -1, -1);
        at(97, "0*(1/x)", 0, -1, -1);
        at(97, "(1/x)^0", 0, -1, -1);
        at(97, "1/x-1/x", 0, -1, -1);
        at(97, "5+1/(x-3)", 3, -1, -1);
        at(97, "1/(1/x)", 0, -1, -1);
        at(97, "x^0/x^0", 0, 1, 0);
        at(97, "x/x", 0, -1, -1);
        CountedNumbers numbers = new CountedNumbers();
        Checks.define(numbers, 0, "5");
        Checks.define(numbers, 1, "f(1/x)");
        Checks.define(numbers, 2, "1/(x-4)");
        Checks.define(numbers, 3, "0*h(x+1)");
        Checks.same("a banned part of a function that does not matter", numbers.valueAt(1, 0), -1);
        Checks.same("its slope by hinges", numbers.slopeByHinges(1, 0), -1);
        Checks.same("its slope by rules", numbers.slopeByRules(1, 0), -1);
        Checks.same("where it is not banned", numbers.valueAt(1, 1), 5);
        Checks.same("a banned function that does not matter", numbers.valueAt(3, 3), -1);
        Checks.same("its slope by hinges", numbers.slopeByHinges(3, 3), -1);
        Checks.same("its slope by rules", numbers.slopeByRules(3, 3), -1);
        Checks.same("where it is not banned", numbers.valueAt(3, 4), 0);
        Checks.same("its slope there", numbers.slopeByHinges(3, 4), 0);
    }

    // Promises 19 and 20: "the slope of the outer one at the value of the inner one, times the slope
    // of the inner one"
    private static void chains() {
        CountedNumbers numbers = Checks.told(97, "x^2", "3*x+1", "1/(x-4)", "f(x)/g(x)");
        both(numbers, 0, 1, 1, 24);
        both(numbers, 1, 0, 1, 6);
        both(numbers, 0, 0, 2, 32);
        both(numbers, 1, 1, 50, 9);
        both(numbers, 2, 1, 1, -1);
        both(numbers, 2, 0, 2, -1);
        both(numbers, 1, 2, 4, -1);
        both(numbers, 2, 2, 4, -1);
        Checks.define(numbers, 0, "0");
        both(numbers, 0, 2, 4, -1);
        both(numbers, 2, 0, 0, 0);
        both(numbers, 0, 1, 3, 0);
    }

    private static void both(CountedNumbers numbers, int outer, int inner, int x, int slope) {
        String what = " of " + outer + " of " + inner + " at " + x;
        Checks.same("by products" + what, numbers.chainByProducts(outer, inner, x), slope);
        Checks.same("by feeding" + what, numbers.chainByFeeding(outer, inner, x), slope);
    }

    /** Any function may be the outer one of any other, also of itself and of a greater one. */
    private static void chainsAgreeEverywhere() {
        for (int outer = 0; outer < 4; outer++) {
            for (int inner = 0; inner < 4; inner++) {
                CountedNumbers numbers = Checks.told(53, "x^2", "3*x+1", "1/(x-4)", "f(x)/g(x)");
                for (int x = 0; x < 53; x++) {
                    int middle = numbers.valueAt(inner, x);
                    int outerSlope = middle == -1 ? -1 : numbers.slopeByHinges(outer, middle);
                    int innerSlope = numbers.slopeByRules(inner, x);
                    both(numbers, outer, inner, x, outerSlope == -1 ? -1 : outerSlope * innerSlope % 53);
                }
            }
        }
    }

    // "Returns the slope; NONE if a value is banned."
    private static void chainsOfBannedValues() {
        CountedNumbers numbers = Checks.told(97, "7", "1/x", "x^2", "1/(x-7)");
        both(numbers, 0, 1, 0, -1);
        both(numbers, 0, 1, 1, 0);
        both(numbers, 2, 1, 0, -1);
        both(numbers, 1, 2, 0, -1);
        both(numbers, 1, 1, 0, -1);
        both(numbers, 1, 1, 5, 1);
        both(numbers, 3, 0, 5, -1);
        both(numbers, 0, 3, 7, -1);
        both(numbers, 0, 3, 8, 0);
        both(numbers, 0, 0, 96, 0);
        Checks.define(numbers, 0, "1/0");
        both(numbers, 0, 2, 5, -1);
        both(numbers, 2, 0, 5, -1);
    }

    private static void chainsAtTheEndsOfX() {
        for (int prime : Checks.PRIMES) {
            CountedNumbers numbers = Checks.told(prime, "x-1", "x+1", "x^2", "1/x");
            both(numbers, 2, 0, 0, Math.floorMod(-2, prime));
            both(numbers, 2, 1, prime - 1, 0);
            both(numbers, 3, 1, prime - 1, -1);
            both(numbers, 3, 0, 0, prime - 1);
            both(numbers, 0, 3, 0, -1);
            both(numbers, 2, 2, prime - 1, Math.floorMod(-4, prime));
        }
    }

    // "x: 0 to the modulus less 1", "Throws IllegalArgumentException if x is out of range"
    private static void lastGoodXAndFirstBadX() {
        for (int prime : new int[] {2, 3, 5, 97, 199}) {
            for (int f = 0; f < 4; f++) {
                CountedNumbers numbers = new CountedNumbers();
                numbers.setModulus(prime);
                allAt(numbers, f, 0);
                allAt(numbers, f, prime - 1);
                int[] bad = {-1, prime, prime + 1, Integer.MAX_VALUE, Integer.MIN_VALUE};
                for (int x : bad) {
                    noneAt(numbers, f, x);
                }
            }
        }
    }

    private static void allAt(CountedNumbers numbers, int f, int x) {
        Checks.same("value of x", numbers.valueAt(f, x), x);
        Checks.same("slope of x by hinges", numbers.slopeByHinges(f, x), 1);
        Checks.same("slope of x by rules", numbers.slopeByRules(f, x), 1);
        both(numbers, f, 3 - f, x, 1);
    }

    private static void noneAt(CountedNumbers numbers, int f, int x) {
        Checks.badArgument("valueAt " + x, () -> numbers.valueAt(f, x));
        Checks.badArgument("slopeByHinges " + x, () -> numbers.slopeByHinges(f, x));
        Checks.badArgument("slopeByRules " + x, () -> numbers.slopeByRules(f, x));
        Checks.badArgument("chainByProducts " + x, () -> numbers.chainByProducts(f, 3 - f, x));
        Checks.badArgument("chainByFeeding " + x, () -> numbers.chainByFeeding(f, 3 - f, x));
    }

    private static void rangeOfXFollowsTheModulus() {
        CountedNumbers numbers = new CountedNumbers();
        allAt(numbers, 3, 96);
        noneAt(numbers, 3, 97);
        numbers.takeSnapshot();
        numbers.setModulus(199);
        allAt(numbers, 3, 97);
        allAt(numbers, 3, 198);
        numbers.setModulus(2);
        noneAt(numbers, 3, 2);
        noneAt(numbers, 3, 96);
        numbers.undo();
        allAt(numbers, 3, 198);
        noneAt(numbers, 3, 199);
        numbers.restoreSnapshot();
        allAt(numbers, 3, 96);
        noneAt(numbers, 3, 97);
    }

    // "Throws IndexOutOfBoundsException if there is no such function", which is listed first
    private static void functionIsLookedAtFirst() {
        CountedNumbers numbers = new CountedNumbers();
        int[] bad = {-1, 4, Integer.MAX_VALUE, Integer.MIN_VALUE};
        int[] xs = {0, 96, 97, -1};
        for (int f : bad) {
            for (int x : xs) {
                Checks.outOfBounds("valueAt", () -> numbers.valueAt(f, x));
                Checks.outOfBounds("slopeByHinges", () -> numbers.slopeByHinges(f, x));
                Checks.outOfBounds("slopeByRules", () -> numbers.slopeByRules(f, x));
                Checks.outOfBounds("chainByProducts outer", () -> numbers.chainByProducts(f, 0, x));
                Checks.outOfBounds("chainByProducts inner", () -> numbers.chainByProducts(3, f, x));
                Checks.outOfBounds("chainByFeeding outer", () -> numbers.chainByFeeding(f, 0, x));
                Checks.outOfBounds("chainByFeeding inner", () -> numbers.chainByFeeding(3, f, x));
            }
        }
        CountedNumbers banned = Checks.told(97, "1/0");
        Checks.outOfBounds("no outer function of a banned value", () -> banned.chainByProducts(4, 0, 0));
        Checks.outOfBounds("no outer function of a banned value", () -> banned.chainByFeeding(4, 0, 0));
        Checks.badArgument("a bad x of a banned value", () -> banned.valueAt(0, 97));
        Checks.badArgument("a bad x of a banned value", () -> banned.slopeByHinges(0, -1));
        Checks.badArgument("a bad x of a banned value", () -> banned.slopeByRules(0, 97));
        Checks.badArgument("a bad x of a banned value", () -> banned.chainByProducts(3, 0, 97));
        Checks.badArgument("a bad x of a banned value", () -> banned.chainByFeeding(3, 0, -1));
    }
}
