/** The sentences of the section "Terms", in their order, where they name a bound or an edge. */
public final class TermsTest {
    public static void main(String[] args) {
        moduliFrom2To199();
        numbersAreRemainders();
        slopesAreRemainders();
        writtenNumbersAreRemainders();
        division();
        divisionByZero();
        fourFunctions();
        fromTheLeftToTheRight();
        powers();
        onlyLesserFunctions();
        expressionsAsTheyAreNow();
        bannedAlsoIfItWouldNotMatter();
        slopesOfSums();
        slopesOfProducts();
        slopesOfPowers();
        slopesOfFunctions();
        nodes();
        alikeNodes();
        depths();
        callsUpToThe512th();
        Checks.end();
    }

    private static void at(CountedNumbers numbers, int function, int x, int value, int slope) {
        String where = " of " + function + " at " + x + " modulo " + numbers.modulus();
        Checks.same("slope by rules" + where, numbers.slopeByRules(function, x), slope);
        Checks.same("value" + where, numbers.valueAt(function, x), value);
        Checks.same("slope by hinges" + where, numbers.slopeByHinges(function, x), slope);
    }

    // "There is a modulus, a prime from 2 to 199 (97 at first)"
    private static void moduliFrom2To199() {
        CountedNumbers numbers = new CountedNumbers();
        Checks.same("modulus at first", numbers.modulus(), 97);
        int previous = 97;
        for (int prime : Checks.PRIMES) {
            Checks.same("the modulus before " + prime, numbers.setModulus(prime), previous);
            Checks.same("the modulus " + prime, numbers.modulus(), prime);
            previous = prime;
        }
        for (int number = -300; number <= 3000; number++) {
            int bad = number;
            if (java.util.Arrays.binarySearch(Checks.PRIMES, number) < 0) {
                CountedNumbers others = new CountedNumbers();
                Checks.badArgument("setModulus " + bad, () -> others.setModulus(bad));
                Checks.same("the modulus stays", others.modulus(), 97);
            }
        }
    }

    // "all numbers are remainders, from 0 to the modulus less 1"
    private static void numbersAreRemainders() {
        for (int prime : Checks.PRIMES) {
            int last = prime - 1;
            CountedNumbers numbers = Checks.told(prime, "x+1", "x-1", "-x", "x*x");
            at(numbers, 0, last, 0, 1);
            at(numbers, 0, last - 1, last, 1);
            at(numbers, 1, 0, last, 1);
            at(numbers, 1, 1, 0, 1);
            at(numbers, 2, 0, 0, last);
            at(numbers, 2, 1, last, last);
            at(numbers, 2, last, 1, last);
            at(numbers, 3, last, 1, 2 * last % prime);
            at(numbers, 3, 0, 0, 0);
        }
    }

    private static void slopesAreRemainders() {
        for (int prime : Checks.PRIMES) {
            int last = prime - 1;
            CountedNumbers numbers = Checks.told(prime, last + "*x+x", "0-x-x", "x*" + prime, "(x+1)*(x+1)");
            at(numbers, 0, last, 0, 0);
            at(numbers, 1, 1, (2 * prime - 2) % prime, (2 * prime - 2) % prime);
            at(numbers, 2, last, 0, 0);
            at(numbers, 3, last, 0, 0);
            at(numbers, 3, 0, 1, 2 % prime);
        }
    }

    private static void writtenNumbersAreRemainders() {
        for (int prime : Checks.PRIMES) {
            CountedNumbers numbers =
                    Checks.told(prime, "" + (prime - 1), "" + prime, "x+" + (prime + 1), "" + 999 / prime * prime);
            at(numbers, 0, 0, prime - 1, 0);
            at(numbers, 1, 0, 0, 0);
            at(numbers, 2, 0, 1, 1);
            at(numbers, 2, prime - 1, 0, 1);
            at(numbers, 3, 0, 0, 0);
            Checks.define(numbers, 3, "999");
            at(numbers, 3, prime - 1, 999 % prime, 0);
        }
    }

    // "To divide by a number that is not 0 means to multiply by the number that, multiplied by it,
    // is 1."
    private static void division() {
        for (int prime : Checks.PRIMES) {
            for (int u : new int[] {0, 1, prime - 1}) {
                divideByAll(prime, u);
            }
        }
        for (int prime : new int[] {2, 3, 5, 7, 97, 199}) {
            for (int u = 0; u < prime; u++) {
                divideByAll(prime, u);
            }
        }
    }

    private static void divideByAll(int prime, int u) {
        CountedNumbers numbers = Checks.told(prime, u + "/x");
        for (int x = 1; x < prime; x++) {
            int value = numbers.valueAt(0, x);
            Checks.same(u + "/" + x + " is a remainder modulo " + prime, value >= 0 && value < prime, true);
            Checks.same(u + "/" + x + " times " + x + " modulo " + prime, value * x % prime, u);
        }
        Checks.same(u + "/0 modulo " + prime, numbers.valueAt(0, 0), -1);
    }

    // "To divide by 0 is banned."
    private static void divisionByZero() {
        for (int prime : Checks.PRIMES) {
            int last = prime - 1;
            CountedNumbers numbers = Checks.told(prime, "0/x", "x/" + prime, "1/(x+1)", "1/" + 999 / prime * prime);
            at(numbers, 0, 0, -1, -1);
            at(numbers, 0, 1, 0, 0);
            at(numbers, 0, last, 0, 0);
            at(numbers, 1, 0, -1, -1);
            at(numbers, 1, last, -1, -1);
            at(numbers, 2, last, -1, -1);
            at(numbers, 2, 0, 1, last);
            at(numbers, 3, 1, -1, -1);
        }
    }

    // "There are 4 functions, 0 to 3, written "f", "g", "h" and "k"; each is told by an expression
    // (at first "x")."
    private static void fourFunctions() {
        CountedNumbers first = new CountedNumbers();
        for (int function = 0; function < 4; function++) {
            Checks.same("nodes of x", first.nodesOf(function), 1);
            at(first, function, 0, 0, 1);
            at(first, function, 96, 96, 1);
        }
        CountedNumbers numbers = Checks.told(97, "x+10", "x+20", "x+40");
        Checks.define(numbers, 3, "f(x)");
        at(numbers, 3, 1, 11, 1);
        Checks.define(numbers, 3, "g(x)");
        at(numbers, 3, 1, 21, 1);
        Checks.define(numbers, 3, "h(x)");
        at(numbers, 3, 1, 41, 1);
        Checks.write(numbers, "k(x)");
        Checks.same("k is a function, too", numbers.textError(), -1);
        Checks.same("which no function may use", numbers.leastToDefine(), -1);
    }

    // "Sums and terms are reckoned from the left to the right"
    private static void fromTheLeftToTheRight() {
        CountedNumbers numbers = Checks.told(97, "50-7-x", "50-7+x-9", "60/x/2", "60/x*2/3");
        at(numbers, 0, 3, 40, 96);
        at(numbers, 1, 3, 37, 1);
        at(numbers, 2, 3, 10, Math.floorMod(-30 * 54, 97));
        Checks.same("60/3*2/3", numbers.valueAt(3, 3) * 3 % 97, 40);
        Checks.define(numbers, 3, "2+x*3-x/4*8");
        at(numbers, 3, 4, 6, 1);
        Checks.define(numbers, 3, "2*x^3*x");
        at(numbers, 3, 2, 32, 64);
        Checks.define(numbers, 3, "2-x^2-x");
        at(numbers, 3, 3, 87, 90);
    }

    // "a power is the atom, multiplied so often (1 for 0)"; the slope of u ^ n is "the number n
    // times u ^ (n - 1) times the slope of u (0 for n = 0)"
    private static void powers() {
        for (int prime : new int[] {2, 3, 5, 7, 11, 97, 199}) {
            for (int n = 0; n <= 9; n++) {
                CountedNumbers numbers = Checks.told(prime, "x^" + n, "(2*x+1)^" + n, "0^" + n, "-x^" + n);
                for (int x = 0; x < prime && numbers.callsLeft() > 20; x++) {
                    int odd = (2 * x + 1) % prime;
                    int negative = (prime - x) % prime;
                    at(numbers, 0, x, power(x, n, prime), n * power(x, n - 1, prime) % prime);
                    at(numbers, 1, x, power(odd, n, prime), 2 * n * power(odd, n - 1, prime) % prime);
                    at(numbers, 2, x, n == 0 ? 1 : 0, 0);
                    at(numbers, 3, x, power(negative, n, prime),
                            (prime - 1) * n * power(negative, n - 1, prime) % prime);
                }
            }
        }
    }

    private static int power(int u, int n, int prime) {
        int result = 1;
        for (int times = 0; times < n; times++) {
            result = result * u % prime;
        }
        return result;
    }

    // "The expression of a function uses only functions with lesser numbers than its own"
    private static void onlyLesserFunctions() {
        String letters = "fghk";
        for (int used = 0; used < 4; used++) {
            String[] texts = {"x(x)", "1+x(2)", "x(x)^2", "-x(x)", "(x(1))", "x/x(3)", "x(x(4))"};
            for (String text : texts) {
                for (int function = 0; function < 4; function++) {
                    CountedNumbers numbers = new CountedNumbers();
                    Checks.write(numbers, text.replace("x(", letters.charAt(used) + "("));
                    int own = function;
                    if (used < own) {
                        Checks.same("define " + own + " by " + used, numbers.define(own), numbers.nodesOf(own));
                    } else {
                        Checks.badState("define " + own + " by " + used, () -> numbers.define(own));
                        Checks.same("nodes stay", numbers.nodesOf(own), 1);
                    }
                }
            }
        }
    }

    // "what it gives depends on their expressions as they are now"
    private static void expressionsAsTheyAreNow() {
        CountedNumbers numbers = Checks.told(97, "x^2", "f(x)+1", "f(g(x))", "h(x)-g(x)");
        at(numbers, 3, 2, 20, 36);
        Checks.define(numbers, 0, "3*x");
        at(numbers, 3, 2, 14, 6);
        at(numbers, 1, 2, 7, 3);
        numbers.undo();
        at(numbers, 3, 2, 20, 36);
        numbers.takeSnapshot();
        numbers.copy(1, 0);
        at(numbers, 3, 2, 12, 28);
        numbers.restoreSnapshot();
        at(numbers, 3, 2, 20, 36);
        numbers.setModulus(7);
        at(numbers, 3, 2, 6, 1);
        Checks.same("bans of k", numbers.bansOf(3), 0);
        Checks.define(numbers, 0, "1/x");
        Checks.same("bans of k with another f", numbers.bansOf(3), 2);
    }

    // "it is banned if anything is divided by 0 in it, also if that would not matter"
    private static void bannedAlsoIfItWouldNotMatter() {
        String[] texts = {"1/x", "0/x", "x/x", "0*(1/x)", "(1/x)*0", "(1/x)^0", "(x/x)^1", "1/x-1/x", "0/(1/x)",
            "1/(1/x)", "-(1/x)", "2+1/x", "1/x+2", "2-1/x", "x^2/x", "f(1/x)", "f(f(1/x))", "0*f(1/x)", "f(0/x)^0",
            "g(x)", "0*g(x)", "g(x)^0", "f(g(x))", "1/(g(x)+1)", "g(g(x)+1)", "g(f(x)-5)", "0/(3/x)^0"};
        for (String text : texts) {
            CountedNumbers numbers = Checks.told(97, "5", "1/x", text);
            at(numbers, 2, 0, -1, -1);
            Checks.same("banned at 0: " + text, numbers.chainByProducts(0, 2, 0), -1);
            Checks.same("banned at 0: " + text, numbers.chainByFeeding(0, 2, 0), -1);
        }
        CountedNumbers numbers = Checks.told(97, "5", "1/x", "0*x/(0*x+1)", "(x-x)^0/(x^0+0*f(x))");
        at(numbers, 2, 0, 0, 0);
        at(numbers, 3, 0, 1, 0);
        Checks.same("nothing is divided by 0", numbers.bansOf(2) + numbers.bansOf(3), 0);
    }

    // "0 for a number, 1 for x; for u + v, u - v and -u the slopes of u and v added, subtracted, or
    // that of u negated"
    private static void slopesOfSums() {
        for (int prime : new int[] {2, 3, 97, 199}) {
            CountedNumbers numbers = Checks.told(prime, "7", "x*x+3*x", "x*x-3*x", "-(x*x)");
            for (int x = 0; x < prime && x < 20; x++) {
                at(numbers, 0, x, 7 % prime, 0);
                at(numbers, 1, x, (x * x + 3 * x) % prime, (2 * x + 3) % prime);
                at(numbers, 2, x, Math.floorMod(x * x - 3 * x, prime), Math.floorMod(2 * x - 3, prime));
                at(numbers, 3, x, Math.floorMod(-x * x, prime), Math.floorMod(-2 * x, prime));
            }
        }
    }

    // "for u * v the slope of u times v plus u times the slope of v; for u / v the slope of u times
    // v minus u times the slope of v, divided by v * v"
    private static void slopesOfProducts() {
        for (int prime : new int[] {2, 3, 97, 199}) {
            CountedNumbers numbers = Checks.told(prime, "(x+1)*(2*x-3)", "(x*x+1)/(x+1)", "x/x", "5/x");
            for (int x = 0; x < prime && x < 20; x++) {
                at(numbers, 0, x, Math.floorMod((x + 1) * (2 * x - 3), prime), Math.floorMod(4 * x - 1, prime));
                boolean banned = (x + 1) % prime == 0;
                at(numbers, 1, x, banned ? -1 : quotient(x * x + 1, x + 1, prime),
                        banned ? -1 : quotient(2 * x * (x + 1) - x * x - 1, (x + 1) * (x + 1), prime));
                at(numbers, 2, x, x == 0 ? -1 : 1, x == 0 ? -1 : 0);
                at(numbers, 3, x, x == 0 ? -1 : quotient(5, x, prime), x == 0 ? -1 : quotient(-5, x * x, prime));
            }
        }
    }

    private static int quotient(int number, int divisor, int prime) {
        for (int result = 0; result < prime; result++) {
            if ((result * divisor - number) % prime == 0) {
                return result;
            }
        }
        throw new AssertionError("no quotient");
    }

    /** The powers of an x, and of functions, whose own slopes are not 1. */
    private static void slopesOfPowers() {
        CountedNumbers numbers = Checks.told(97, "x^3", "f(2*x)^2", "(x^2)^3", "(x^2)^0");
        at(numbers, 1, 1, 64, 2 * 8 * 12 * 2 % 97);
        at(numbers, 2, 2, 64, 6 * 32 % 97);
        at(numbers, 2, 0, 0, 0);
        at(numbers, 3, 0, 1, 0);
        at(numbers, 3, 5, 1, 0);
        CountedNumbers small = Checks.told(7, "x^7", "x^8", "x^9", "(x^7)^7");
        for (int x = 0; x < 7; x++) {
            at(small, 0, x, x, 0);
            at(small, 1, x, x * x % 7, x);
            at(small, 2, x, x * x * x % 7, 2 * x * x % 7);
            at(small, 3, x, x, 0);
        }
    }

    // "for a function of u the slope of the function at the value of u, times the slope of u"
    private static void slopesOfFunctions() {
        CountedNumbers numbers = Checks.told(97, "x^2", "f(x+3)", "f(3*x)*g(x)", "h(f(g(x)))");
        at(numbers, 1, 1, 16, 8);
        at(numbers, 2, 1, 9 * 16 % 97, (18 * 16 + 9 * 8) % 97);
        int inner = 16 * 16 % 97;
        Checks.same("a function three times deep, by rules", numbers.slopeByRules(3, 1),
                numbers.slopeByHinges(2, inner) * 32 * 8 % 97);
        Checks.same("a function three times deep, by hinges", numbers.slopeByHinges(3, 1),
                numbers.slopeByRules(2, inner) * 32 * 8 % 97);
        for (int x = 0; x < 97; x++) {
            Checks.same("the two slopes agree", numbers.slopeByRules(3, x), numbers.slopeByHinges(3, x));
        }
    }

    private static void counts(String text, int nodes, int unlike, int depth) {
        CountedNumbers numbers = new CountedNumbers();
        Checks.same("define answers the nodes of " + text, Checks.define(numbers, 3, text), nodes);
        Checks.same("nodes of " + text, numbers.nodesOf(3), nodes);
        Checks.same("unlike nodes of " + text, numbers.unlikeNodesOf(3), unlike);
        Checks.same("depth of " + text, numbers.depthOf(3), depth);
    }

    // "its numbers, its x, and one for each sign and each function in it ...; other parentheses are
    // no nodes"
    private static void nodes() {
        counts("x", 1, 1, 1);
        counts("0", 1, 1, 1);
        counts("999", 1, 1, 1);
        counts("(x)", 1, 1, 1);
        counts(Checks.repeated("(", 19) + "10" + Checks.repeated(")", 19), 1, 1, 1);
        counts("-x", 2, 2, 2);
        counts("x^0", 2, 2, 2);
        counts("f(x)", 2, 2, 2);
        counts("f((x))", 2, 2, 2);
        counts("(f(x))^2", 3, 3, 3);
        counts("x+1", 3, 3, 2);
        counts("x--1", 4, 4, 3);
        counts(Checks.repeated("-", 39) + "x", 40, 40, 40);
        counts(Checks.repeated("x*", 19) + "99", 39, 21, 20);
        counts(Checks.repeated("g(", 13) + "x" + Checks.repeated(")", 13), 14, 14, 14);
    }

    // "Two nodes are alike if they are of the same kind, with the same number or digit, and what
    // they are made of is alike, in the same order."
    private static void alikeNodes() {
        counts("x+x", 3, 2, 2);
        counts("7+7", 3, 2, 2);
        counts("7+8", 3, 3, 2);
        counts("7+77", 3, 3, 2);
        counts("1+98", 3, 3, 2);
        counts("0+97", 3, 3, 2);
        counts("x^2+x^2", 5, 3, 3);
        counts("x^2+x^3", 5, 4, 3);
        counts("(x^2)^2", 3, 3, 3);
        counts("2^2+2", 4, 3, 3);
        counts("(1+x)*(1+x)", 7, 4, 3);
        counts("(1+x)*(x+1)", 7, 5, 3);
        counts("(1+x)*(1-x)", 7, 5, 3);
        counts("(1*x)+(1/x)", 7, 5, 3);
        counts("-x-x", 4, 3, 3);
        counts("-x--x", 5, 3, 3);
        counts("0-x-(-x)", 6, 5, 3);
        counts("x+x^0", 4, 3, 3);
        counts("f(x)+g(x)", 5, 4, 3);
        counts("f(x)+f(x)", 5, 3, 3);
        counts("f(1)+f(2)", 5, 5, 3);
        counts("f(x)+h(f((x)))", 6, 4, 4);
        counts("x^1+f(x)-g(x)", 8, 6, 4);
        counts("x-x-x", 5, 3, 3);
        counts("(x-x)-(x-x)", 7, 3, 3);
        counts("x-(x-x)+(x-x-x)", 11, 5, 4);
        counts("x*x*x*x", 7, 4, 4);
        counts("x*x*(x*x)", 7, 3, 3);
    }

    // "The depth of a node is 1 more than the greatest depth of those that it is made of, 1 if
    // there are none."
    private static void depths() {
        counts("1", 1, 1, 1);
        counts("1+2", 3, 3, 2);
        counts("1+2+3", 5, 5, 3);
        counts("1+(2+3)", 5, 5, 3);
        counts("(1+2)*(3+4)", 7, 7, 3);
        counts("1*2+3", 5, 5, 3);
        counts("1+2*3^4", 6, 6, 4);
        counts("(1+2*3)^4+5", 8, 8, 5);
        counts("5+(1+2*3)^4", 8, 8, 5);
        CountedNumbers numbers = Checks.told(97, "((x+1)*2)^3", "f(x)");
        Checks.same("the depth of f is none of g", numbers.depthOf(1), 2);
        Checks.same("nor are its nodes", numbers.nodesOf(1), 2);
        Checks.same("nor its unlike nodes", numbers.unlikeNodesOf(1), 2);
    }

    // "An object is used for at most 512 calls after it has been made"
    private static void callsUpToThe512th() {
        CountedNumbers numbers = Checks.told(199, "x^2", "f(x)+3");
        numbers.takeSnapshot();
        while (numbers.callsLeft() > 10) {
            numbers.setModulus(numbers.callsLeft() % 3 == 0 ? 199 : 7);
            numbers.define(3);
            numbers.valueAt(3, 6);
        }
        while (numbers.callsLeft() > 7) {
            numbers.restoreSnapshot();
        }
        Checks.same("value by the 506th call", numbers.valueAt(1, 198), 4);
        Checks.same("slope by the 507th call", numbers.slopeByRules(1, 198), 197);
        Checks.same("type by the 508th call", numbers.type('x'), 7);
        Checks.same("error by the 509th call", numbers.textError(), 6);
        Checks.same("undo by the 510th call", numbers.undo(), 3);
        Checks.same("recorded by the 511th call", numbers.recordedStates(), 3);
        Checks.same("modulus by the 512th call", numbers.restoreSnapshot(), 199);
        Checks.same("calls left", numbers.callsLeft(), 0);
    }
}
