/** Promises 21 to 27: bansOf, flatsOf, firstFlat, rootsOf, isSame, step, stepsToRoot. */
public final class EverywhereTest {
    public static void main(String[] args) {
        countsOverAllX();
        sameEverywhere();
        steps();
        stepsUntilARoot();
        countsAgreeWithSingleCalls();
        refusals();
        Checks.end();
    }

    private static void counts(int prime, String text, int bans, int flats, int first, int roots) {
        HingeNumbers numbers = new HingeNumbers();
        numbers.setModulus(prime);
        Checks.define(numbers, 1, text);
        String what = text + " modulo " + prime;
        Checks.same("bans of " + what, numbers.bansOf(1), bans);
        Checks.same("flats of " + what, numbers.flatsOf(1), flats);
        Checks.same("first flat of " + what, numbers.firstFlat(1), first);
        Checks.same("roots of " + what, numbers.rootsOf(1), roots);
    }

    private static void countsOverAllX() {
        counts(97, "x", 0, 0, -1, 1);
        counts(97, "5", 0, 97, 0, 0);
        counts(97, "97", 0, 97, 0, 97);
        counts(97, "x^2-2", 0, 1, 0, 2);
        counts(97, "(x-3)^2", 0, 1, 3, 1);
        counts(97, "1/x", 1, 0, -1, 0);
        counts(97, "1/0", 97, 0, -1, 0);
        counts(97, "0/x", 1, 96, 1, 96);
        counts(97, "x^3-3*x", 0, 2, 1, 3);
        counts(97, "1/(x-1)+1/(x-2)", 2, 2, 39, 1);
        counts(7, "x^7-x", 0, 0, -1, 7);
        counts(7, "x^7", 0, 7, 0, 1);
        counts(2, "x^2+x", 0, 0, -1, 2);
        counts(2, "x^2", 0, 2, 0, 1);
        counts(2, "1/x", 1, 0, -1, 0);
        counts(2, "1/(x+1)", 1, 0, -1, 0);
        counts(199, "x-198", 0, 0, -1, 1);
        counts(199, "(x-198)^2", 0, 1, 198, 1);
        counts(199, "1/(x-198)", 1, 0, -1, 0);
        counts(3, "x*0/(x-1)", 1, 2, 0, 2);
    }

    private static void sameEverywhere() {
        same(97, "x+x", "2*x", true);
        same(97, "x", "x", true);
        same(97, "x", "x+1", false);
        same(97, "x/x", "1", false);
        same(97, "1/(1/x)", "x*x/x", true);
        same(97, "1/0", "x/97", true);
        same(97, "1/x", "1/-x", false);
        same(7, "x^7", "x", true);
        same(97, "x^7", "x", false);
        same(7, "1", "8", true);
        same(2, "x^2", "x", true);
        same(5, "1/(x-4)", "1/(x-3)", false);
        same(5, "x*(x-1)*(x-2)*(x-3)", "0", false);
        HingeNumbers numbers = new HingeNumbers();
        Checks.same("a function is the same as itself", numbers.isSame(2, 2), true);
        Checks.define(numbers, 1, "f(x)^2");
        Checks.same("f and g", numbers.isSame(0, 1), false);
        numbers.setModulus(2);
        Checks.same("f and g modulo 2", numbers.isSame(0, 1), true);
    }

    private static void same(int prime, String first, String second, boolean due) {
        HingeNumbers numbers = new HingeNumbers();
        numbers.setModulus(prime);
        Checks.define(numbers, 0, first);
        Checks.define(numbers, 3, second);
        Checks.same(first + " is the same as " + second, numbers.isSame(0, 3), due);
        Checks.same(second + " is the same as " + first, numbers.isSame(3, 0), due);
    }

    private static void steps() {
        HingeNumbers numbers = new HingeNumbers();
        Checks.define(numbers, 0, "x^2-2");
        Checks.same("step at 10", numbers.step(0, 10), 73);
        Checks.same("step at a flat spot", numbers.step(0, 0), -1);
        Checks.same("step of x", numbers.step(1, 50), 0);
        Checks.same("step at a root", numbers.step(1, 0), 0);
        Checks.define(numbers, 2, "1/x");
        Checks.same("step at a ban", numbers.step(2, 0), -1);
        Checks.same("step of 1/x doubles x", numbers.step(2, 60), 23);
        Checks.define(numbers, 3, "x^2");
        Checks.same("step at a root that is flat", numbers.step(3, 0), -1);
        Checks.same("step of x^2 halves x", numbers.step(3, 50), 25);
        Checks.define(numbers, 3, "7");
        Checks.same("step of a number", numbers.step(3, 50), -1);
        Checks.define(numbers, 3, "2*x-6");
        Checks.same("step to the root", numbers.step(3, 50), 3);
    }

    private static void until(int prime, String text, int x, int due) {
        HingeNumbers numbers = new HingeNumbers();
        numbers.setModulus(prime);
        Checks.define(numbers, 0, text);
        Checks.same("steps of " + text + " at " + x + " modulo " + prime, numbers.stepsToRoot(0, x), due);
    }

    private static void stepsUntilARoot() {
        until(97, "x", 0, 0);
        until(97, "x", 5, 1);
        until(97, "x^2", 0, 0);
        until(97, "x^2", 5, -1);
        until(97, "x^2-2", 0, -1);
        until(97, "x^2-2", 10, -1);
        until(97, "x^2-2", 14, 0);
        until(97, "3", 5, -1);
        until(97, "0", 5, 0);
        until(97, "1/x", 5, -1);
        until(97, "1/x", 0, -1);
        until(97, "x^2/(x-3)", 3, -1);
        until(2, "x", 1, 1);
        until(2, "x^2", 1, -1);
        until(3, "x-2", 0, 1);
        until(151, "x^9+x+3", 109, 31);
        until(3, "x^2-x^6*(x^8+4)+x^2+x^3", 1, 2);
        until(5, "x^2+3-x^8*x^6-7*x", 3, 4);
        until(7, "x^8+6-x*(x+6)", 2, 6);
        longestWay();
    }

    /** A way of many steps, counted by single steps. */
    private static void longestWay() {
        String[] texts = {"x^3-2", "x^2-2", "x^5-x-1", "x^9+x+3", "1/x+x", "x^3/(x-1)+7", "x^4+x^3+5"};
        int[] primes = {2, 5, 7, 97, 151, 193, 199};
        int longest = 0;
        for (String text : texts) {
            for (int prime : primes) {
                HingeNumbers numbers = new HingeNumbers();
                numbers.setModulus(prime);
                Checks.define(numbers, 0, text);
                for (int x = 0; x < prime; x++) {
                    int due = -1;
                    int place = x;
                    for (int steps = 0; steps < 1000 && place != -1 && due == -1; steps++) {
                        due = numbers.valueAt(0, place) == 0 ? steps : -1;
                        place = numbers.step(0, place);
                    }
                    Checks.same("steps of " + text + " at " + x, numbers.stepsToRoot(0, x), due);
                    longest = Math.max(longest, due);
                }
            }
        }
        Checks.same("some way has ten steps or more", longest >= 10, true);
    }

    private static void countsAgreeWithSingleCalls() {
        HingeNumbers numbers = new HingeNumbers();
        numbers.setModulus(41);
        Checks.define(numbers, 0, "(x^3-5*x)/(x-7)");
        Checks.define(numbers, 1, "f(x)^2-f(x+1)/x");
        int bans = 0;
        int flats = 0;
        int roots = 0;
        for (int x = 0; x < 41; x++) {
            bans += numbers.valueAt(1, x) == -1 ? 1 : 0;
            flats += numbers.slopeByRules(1, x) == 0 ? 1 : 0;
            roots += numbers.valueAt(1, x) == 0 ? 1 : 0;
        }
        Checks.same("bans", numbers.bansOf(1), bans);
        Checks.same("flats", numbers.flatsOf(1), flats);
        Checks.same("roots", numbers.rootsOf(1), roots);
    }

    private static void refusals() {
        HingeNumbers numbers = new HingeNumbers();
        int[] bad = {-1, 4, 97, Integer.MAX_VALUE, Integer.MIN_VALUE};
        for (int f : bad) {
            Checks.outOfBounds("bansOf", numbers, () -> numbers.bansOf(f));
            Checks.outOfBounds("flatsOf", numbers, () -> numbers.flatsOf(f));
            Checks.outOfBounds("firstFlat", numbers, () -> numbers.firstFlat(f));
            Checks.outOfBounds("rootsOf", numbers, () -> numbers.rootsOf(f));
            Checks.outOfBounds("isSame first", numbers, () -> numbers.isSame(f, 0) ? 1 : 0);
            Checks.outOfBounds("isSame second", numbers, () -> numbers.isSame(0, f) ? 1 : 0);
            Checks.outOfBounds("isSame both", numbers, () -> numbers.isSame(f, f) ? 1 : 0);
            Checks.outOfBounds("step", numbers, () -> numbers.step(f, 1));
            Checks.outOfBounds("step, x bad too", numbers, () -> numbers.step(f, 97));
            Checks.outOfBounds("stepsToRoot", numbers, () -> numbers.stepsToRoot(f, 1));
            Checks.outOfBounds("stepsToRoot, x bad too", numbers, () -> numbers.stepsToRoot(f, -1));
        }
        int[] badX = {-1, 97, 199, Integer.MAX_VALUE, Integer.MIN_VALUE};
        for (int x : badX) {
            Checks.badArgument("step " + x, numbers, () -> numbers.step(0, x));
            Checks.badArgument("stepsToRoot " + x, numbers, () -> numbers.stepsToRoot(3, x));
        }
    }
}
