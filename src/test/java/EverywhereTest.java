/** Promises 21 to 27: bansOf, flatsOf, firstFlat, rootsOf, isSame, step, stepsToRoot. */
public final class EverywhereTest {
    public static void main(String[] args) {
        countsOverAllX();
        countsAtTheEndsOfX();
        countsFollowTheModulus();
        sameEverywhere();
        otherAtOneXAlone();
        steps();
        stepsWrapAround();
        stepsUntilARoot();
        countedSteps();
        longestWays();
        waysWithoutARoot();
        countsAgreeWithSingleCalls();
        lastGoodAndFirstBad();
        Checks.end();
    }

    private static void counts(int prime, String text, int bans, int flats, int first, int roots) {
        CountedNumbers numbers = new CountedNumbers();
        numbers.setModulus(prime);
        Checks.define(numbers, 1, text);
        String what = text + " modulo " + prime;
        Checks.same("bans of " + what, numbers.bansOf(1), bans);
        Checks.same("flats of " + what, numbers.flatsOf(1), flats);
        Checks.same("first flat of " + what, numbers.firstFlat(1), first);
        Checks.same("roots of " + what, numbers.rootsOf(1), roots);
    }

    private static void countsOverAllX() {
        counts(97, "x", 0, 0, -1, 1);
        counts(97, "5", 0, 97, 0, 0);
        counts(97, "97", 0, 97, 0, 97);
        counts(97, "x^2-2", 0, 1, 0, 2);
        counts(97, "(x-3)^2", 0, 1, 3, 1);
        counts(97, "1/x", 1, 0, -1, 0);
        counts(97, "1/0", 97, 0, -1, 0);
        counts(97, "0/x", 1, 96, 1, 96);
        counts(97, "x^3-3*x", 0, 2, 1, 3);
        counts(97, "1/(x-1)+1/(x-2)", 2, 2, 39, 1);
        counts(7, "x^7-x", 0, 0, -1, 7);
        counts(7, "x^7", 0, 7, 0, 1);
        counts(2, "x^2+x", 0, 0, -1, 2);
        counts(2, "x^2", 0, 2, 0, 1);
        counts(2, "1/x", 1, 0, -1, 0);
        counts(2, "1/(x+1)", 1, 0, -1, 0);
        counts(199, "x-198", 0, 0, -1, 1);
        counts(199, "(x-198)^2", 0, 1, 198, 1);
        counts(199, "1/(x-198)", 1, 0, -1, 0);
        counts(3, "x*0/(x-1)", 1, 2, 0, 2);
    }

    /** Nothing, the first x alone, the last x alone, all but one of them, and all. */
    private static void countsAtTheEndsOfX() {
        for (int prime : Checks.PRIMES) {
            int last = prime - 1;
            counts(prime, "x", 0, 0, -1, 1);
            counts(prime, "x-" + last, 0, 0, -1, 1);
            counts(prime, "1/x", 1, 0, -1, 0);
            counts(prime, "1/(x-" + last + ")", 1, 0, -1, 0);
            counts(prime, "x/x", 1, prime - 1, 1, 0);
            counts(prime, "x/x-1", 1, prime - 1, 1, prime - 1);
            counts(prime, "(x+1)/(x+1)", 1, prime - 1, 0, 0);
            counts(prime, "x-x", 0, prime, 0, prime);
            counts(prime, "1", 0, prime, 0, 0);
            counts(prime, "x/(x-x)", prime, 0, -1, 0);
            if (prime > 2) {
                counts(prime, "x^2", 0, 1, 0, 1);
                counts(prime, "(x+1)^2", 0, 1, last, 1);
                counts(prime, "x^2-1", 0, 1, 0, 2);
                counts(prime, "x^2/(x+1)/(x+1)", 1, 1, 0, 1);
            }
        }
    }

    private static void countsFollowTheModulus() {
        CountedNumbers numbers = Checks.told(199, "x^2/(x-3)", "f(x-1)*(x-5)");
        Checks.same("bans modulo 199", numbers.bansOf(1), 1);
        Checks.same("roots modulo 199", numbers.rootsOf(1), 2);
        numbers.setModulus(2);
        Checks.same("bans modulo 2", numbers.bansOf(1), 1);
        Checks.same("roots modulo 2", numbers.rootsOf(1), 1);
        Checks.define(numbers, 0, "x");
        Checks.same("bans with another f", numbers.bansOf(1), 0);
        Checks.same("roots with another f", numbers.rootsOf(1), 1);
        Checks.same("flats with another f", numbers.flatsOf(1), 2);
        numbers.undo();
        numbers.undo();
        Checks.same("bans as before", numbers.bansOf(1), 1);
        Checks.same("roots as before", numbers.rootsOf(1), 2);
    }

    // Promise 25: "at each x both are banned, or have the same value"
    private static void sameEverywhere() {
        same(97, "x+x", "2*x", true);
        same(97, "x", "x", true);
        same(97, "x", "x+1", false);
        same(97, "x/x", "1", false);
        same(97, "1/(1/x)", "x*x/x", true);
        same(97, "1/0", "x/97", true);
        same(97, "1/x", "1/-x", false);
        same(7, "x^7", "x", true);
        same(97, "x^7", "x", false);
        same(7, "1", "8", true);
        same(2, "x^2", "x", true);
        same(5, "1/(x-4)", "1/(x-3)", false);
        same(5, "x*(x-1)*(x-2)*(x-3)", "0", false);
        CountedNumbers numbers = new CountedNumbers();
        Checks.same("a function is the same as itself", numbers.isSame(2, 2), true);
        Checks.define(numbers, 1, "f(x)^2");
        Checks.same("f and g", numbers.isSame(0, 1), false);
        numbers.setModulus(2);
        Checks.same("f and g modulo 2", numbers.isSame(0, 1), true);
    }

    private static void same(int prime, String first, String second, boolean due) {
        CountedNumbers numbers = new CountedNumbers();
        numbers.setModulus(prime);
        Checks.define(numbers, 0, first);
        Checks.define(numbers, 3, second);
        Checks.same(first + " is the same as " + second, numbers.isSame(0, 3), due);
        Checks.same(second + " is the same as " + first, numbers.isSame(3, 0), due);
    }

    /** f and g are other at one x alone, the first, the last, or one between. */
    private static void otherAtOneXAlone() {
        String[] notZero = {"x", "x^2", "x^4", "x^6", "((x^8)^6)^2"};
        int[] primes = {2, 3, 5, 7, 97};
        for (int index = 0; index < primes.length; index++) {
            int prime = primes[index];
            for (int x = 0; x < prime; x++) {
                String gap = "(x-" + x + ")";
                // By Fermat's little theorem the power is 1 but at this x, where it is 0.
                String power = notZero[index].replace("x", gap);
                same(prime, power, "1", false);
                same(prime, "x+" + power, "x+1", false);
                same(prime, "x", "x*" + gap + "/" + gap, false);
                same(prime, "1/" + gap, gap + "/" + gap + "^2", true);
                same(prime, "1", gap + "/" + gap, false);
                same(prime, "" + (prime - 1), "-" + gap + "/" + gap, false);
            }
        }
        same(199, "96/0", "x/0", true);
        same(199, "198", "198/0", false);
        same(2, "1", "1/0", false);
        same(2, "0", "1/0", false);
    }

    // Promise 26: "x minus the value at x, divided by the slope at x", "NONE if the value is banned,
    // or the slope is 0"
    private static void steps() {
        CountedNumbers numbers = new CountedNumbers();
        Checks.define(numbers, 0, "x^2-2");
        Checks.same("step at 10", numbers.step(0, 10), 73);
        Checks.same("step at a flat spot", numbers.step(0, 0), -1);
        Checks.same("step of x", numbers.step(1, 50), 0);
        Checks.same("step at a root", numbers.step(1, 0), 0);
        Checks.same("step at another root", numbers.step(0, 14), 14);
        Checks.define(numbers, 2, "1/x");
        Checks.same("step at a ban", numbers.step(2, 0), -1);
        Checks.same("step of 1/x doubles x", numbers.step(2, 60), 23);
        Checks.define(numbers, 3, "x^2");
        Checks.same("step at a root that is flat", numbers.step(3, 0), -1);
        Checks.same("step of x^2 halves x", numbers.step(3, 50), 25);
        Checks.define(numbers, 3, "7");
        Checks.same("step of a number", numbers.step(3, 50), -1);
        Checks.define(numbers, 3, "0");
        Checks.same("step of 0", numbers.step(3, 50), -1);
        Checks.define(numbers, 3, "2*x-6");
        Checks.same("step to the root", numbers.step(3, 50), 3);
        Checks.define(numbers, 3, "1/0");
        Checks.same("step where all is banned", numbers.step(3, 50), -1);
        Checks.same("steps are no actions", numbers.clearText(), 3);
    }

    private static void stepsWrapAround() {
        for (int prime : Checks.PRIMES) {
            int last = prime - 1;
            CountedNumbers numbers = Checks.told(prime, "x+1", "x-1", "-x", "x^2");
            Checks.same("step below 0", numbers.step(0, 0), last);
            Checks.same("step to the root", numbers.step(0, last), last);
            Checks.same("step up", numbers.step(1, 0), 1 % prime);
            Checks.same("step down", numbers.step(1, last), 1 % prime);
            Checks.same("step of -x", numbers.step(2, last), 0);
            Checks.same("step of x^2", numbers.step(3, last), prime == 2 ? -1 : (prime - 1) / 2);
        }
    }

    private static void until(int prime, String text, int x, int due) {
        CountedNumbers numbers = new CountedNumbers();
        numbers.setModulus(prime);
        Checks.define(numbers, 0, text);
        Checks.same("steps of " + text + " at " + x + " modulo " + prime, numbers.stepsToRoot(0, x), due);
    }

    // Promise 27: "Returns the number of steps, 0 if x is a root; NONE if none is ever met."
    private static void stepsUntilARoot() {
        until(97, "x", 0, 0);
        until(97, "x", 5, 1);
        until(97, "x^2", 0, 0);
        until(97, "x^2", 5, -1);
        until(97, "x^2-2", 0, -1);
        until(97, "x^2-2", 10, -1);
        until(97, "x^2-2", 14, 0);
        until(97, "3", 5, -1);
        until(97, "0", 5, 0);
        until(97, "1/x", 5, -1);
        until(97, "1/x", 0, -1);
        until(97, "x^2/(x-3)", 3, -1);
        until(2, "x", 1, 1);
        until(2, "x^2", 1, -1);
        until(3, "x-2", 0, 1);
        until(151, "x^9+x+3", 109, 31);
        until(3, "x^2-x^6*(x^8+4)+x^2+x^3", 1, 2);
        until(5, "x^2+3-x^8*x^6-7*x", 3, 4);
        until(7, "x^8+6-x*(x+6)", 2, 6);
    }

    /** Ways counted by single steps. */
    private static void countedSteps() {
        String[] texts = {"x^3-2", "x^2-2", "x^5-x-1", "x^9+x+3", "1/x+x", "x^3/(x-1)+7", "x^4+x^3+5"};
        int[] primes = {2, 5, 7, 97, 151, 193, 199};
        int longest = 0;
        for (String text : texts) {
            for (int prime : primes) {
                CountedNumbers single = Checks.told(prime, text);
                int[] values = new int[prime];
                int[] next = new int[prime];
                for (int x = 0; x < prime; x++) {
                    values[x] = single.valueAt(0, x);
                    next[x] = single.step(0, x);
                }
                CountedNumbers numbers = Checks.told(prime, text);
                for (int x = 0; x < prime; x++) {
                    int due = -1;
                    int place = x;
                    for (int steps = 0; steps < 1000 && place != -1 && due == -1; steps++) {
                        due = values[place] == 0 ? steps : -1;
                        place = next[place];
                    }
                    Checks.same("steps of " + text + " at " + x, numbers.stepsToRoot(0, x), due);
                    longest = Math.max(longest, due);
                }
            }
        }
        Checks.same("some way has ten steps or more", longest >= 10, true);
    }

    private static final int[] POWER_PRIMES = {2, 3, 7, 19, 97, 193, 197, 199};

    /**
     * f and g, of which g(x) is x with the slope 0: x multiplied as often as the modulus says. So
     * x-g(x) is 0 with the slope 1, and v(g(x))+(x-g(x))*w(x) has the value v and the slope w.
     */
    private static CountedNumbers withFlatX(int index) {
        String[] f = {"1", "1", "1", "(x^9)^2", "((x^8)^6)^2", "((x^8)^8)^3", "((x^7)^7)^4", "(x^9)^2"};
        String[] g = {"x^2", "x^3", "x^7", "f(x)*x", "f(x)*x", "f(x)*x", "f(x)*x", "f(x)^9*f(x)^2*x"};
        return Checks.told(POWER_PRIMES[index], f[index], g[index]);
    }

    /** The longest way that there is: each step is one down, so x is as many steps from the root. */
    private static void longestWays() {
        for (int index = 0; index < POWER_PRIMES.length; index++) {
            int prime = POWER_PRIMES[index];
            CountedNumbers numbers = withFlatX(index);
            Checks.define(numbers, 2, "g(x)+(x-g(x))*x");
            for (int x = 0; x < prime; x++) {
                Checks.same("steps down from " + x + " modulo " + prime, numbers.stepsToRoot(2, x), x);
            }
            Checks.define(numbers, 3, "g(x)-(x-g(x))*x");
            for (int x = 0; x < prime; x++) {
                Checks.same("steps up from " + x + " modulo " + prime, numbers.stepsToRoot(3, x), (prime - x) % prime);
            }
        }
    }

    private static void waysWithoutARoot() {
        for (int index = 0; index < POWER_PRIMES.length; index++) {
            int prime = POWER_PRIMES[index];
            CountedNumbers numbers = withFlatX(index);
            Checks.define(numbers, 2, "1+x-g(x)");
            Checks.same("no root", numbers.rootsOf(2), 0);
            for (int x = 0; x < prime && x < 40; x++) {
                Checks.same("a step down", numbers.step(2, x), (x + prime - 1) % prime);
                Checks.same("round and round from " + x, numbers.stepsToRoot(2, x), -1);
            }
            Checks.define(numbers, 3, "g(x)+(x-g(x))*x+0/(x-1)");
            Checks.same("a root", numbers.stepsToRoot(3, 0), 0);
            for (int x = 1; x < prime && x < 40; x++) {
                Checks.same("to a ban from " + x, numbers.stepsToRoot(3, x), -1);
            }
            Checks.define(numbers, 3, "g(x)+(x-g(x))*x*(x-1)");
            Checks.same("a root that is flat", numbers.stepsToRoot(3, 0), 0);
            Checks.same("a flat spot", numbers.stepsToRoot(3, 1), -1);
        }
    }

    private static void countsAgreeWithSingleCalls() {
        CountedNumbers numbers = new CountedNumbers();
        numbers.setModulus(41);
        Checks.define(numbers, 0, "(x^3-5*x)/(x-7)");
        Checks.define(numbers, 1, "f(x)^2-f(x+1)/x");
        int bans = 0;
        int flats = 0;
        int roots = 0;
        for (int x = 0; x < 41; x++) {
            bans += numbers.valueAt(1, x) == -1 ? 1 : 0;
            flats += numbers.slopeByRules(1, x) == 0 ? 1 : 0;
            roots += numbers.valueAt(1, x) == 0 ? 1 : 0;
        }
        Checks.same("bans", numbers.bansOf(1), bans);
        Checks.same("flats", numbers.flatsOf(1), flats);
        Checks.same("roots", numbers.rootsOf(1), roots);
    }

    // "function: 0 to 3", "x: 0 to the modulus less 1", and what is thrown beyond
    private static void lastGoodAndFirstBad() {
        for (int prime : new int[] {2, 97, 199}) {
            for (int f = 0; f < 4; f++) {
                CountedNumbers numbers = new CountedNumbers();
                numbers.setModulus(prime);
                Checks.same("bans of x", numbers.bansOf(f), 0);
                Checks.same("flats of x", numbers.flatsOf(f), 0);
                Checks.same("first flat of x", numbers.firstFlat(f), -1);
                Checks.same("roots of x", numbers.rootsOf(f), 1);
                Checks.same("x and x", numbers.isSame(f, 3 - f), true);
                goodX(numbers, f, 0, 0);
                goodX(numbers, f, prime - 1, 1);
                int[] badX = {-1, prime, prime + 1, Integer.MAX_VALUE, Integer.MIN_VALUE};
                for (int x : badX) {
                    int function = f;
                    Checks.badArgument("step " + x, () -> numbers.step(function, x));
                    Checks.badArgument("stepsToRoot " + x, () -> numbers.stepsToRoot(function, x));
                }
            }
        }
        int[] bad = {-1, 4, Integer.MAX_VALUE, Integer.MIN_VALUE};
        for (int f : bad) {
            badFunction(f);
        }
    }

    private static void goodX(CountedNumbers numbers, int f, int x, int steps) {
        Checks.same("step of x at " + x, numbers.step(f, x), 0);
        Checks.same("steps of x at " + x, numbers.stepsToRoot(f, x), steps);
    }

    private static void badFunction(int f) {
        CountedNumbers numbers = new CountedNumbers();
        Checks.outOfBounds("bansOf " + f, () -> numbers.bansOf(f));
        Checks.outOfBounds("flatsOf " + f, () -> numbers.flatsOf(f));
        Checks.outOfBounds("firstFlat " + f, () -> numbers.firstFlat(f));
        Checks.outOfBounds("rootsOf " + f, () -> numbers.rootsOf(f));
        Checks.outOfBounds("isSame, first " + f, () -> numbers.isSame(f, 0) ? 1 : 0);
        Checks.outOfBounds("isSame, second " + f, () -> numbers.isSame(3, f) ? 1 : 0);
        Checks.outOfBounds("isSame, both " + f, () -> numbers.isSame(f, f) ? 1 : 0);
        int[] xs = {0, 96, 97, -1};
        for (int x : xs) {
            Checks.outOfBounds("step " + f + " at " + x, () -> numbers.step(f, x));
            Checks.outOfBounds("stepsToRoot " + f + " at " + x, () -> numbers.stepsToRoot(f, x));
        }
    }
}
