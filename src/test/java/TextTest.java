/** Promises 5 to 8: type, clearText, textError, leastToDefine. */
public final class TextTest {
    private static final String DIGITS = "0123456789";
    private static final String BEHIND_POWER = "+-*/";
    private static final String BEHIND_ATOM = "+-*/^";

    public static void main(String[] args) {
        typeUpToFortyCharacters();
        fullTexts();
        typeAnyCharacter();
        clearAnswersTheLength();
        errors();
        errorsAtTheEndsOfATextOfForty();
        everyCharacterInEveryPlace();
        everyNumber();
        errorsByTheirMeaning();
        askingChangesNothing();
        earlierTextsLeaveNothing();
        manyTextsThatEndTooEarly();
        least();
        leastRefuses();
        Checks.end();
    }

    // "The text has at most 40 characters and is empty at first.", "Throws IllegalStateException if
    // the text has 40 characters"
    private static void typeUpToFortyCharacters() {
        CountedNumbers numbers = new CountedNumbers();
        Checks.same("error of an empty text", numbers.textError(), 0);
        for (int length = 1; length <= 40; length++) {
            Checks.same("length", numbers.type(length % 2 == 1 ? 'x' : '+'), length);
            Checks.same("error", numbers.textError(), length % 2 == 1 ? -1 : length);
        }
        Checks.badState("the 41st character", () -> numbers.type('x'));
        Checks.badState("the 41st character again", () -> numbers.type('y'));
        Checks.same("the text stays", numbers.textError(), 40);
        Checks.same("length that it had", numbers.clearText(), 40);
        for (int length = 1; length <= 40; length++) {
            Checks.same("length after clearing", numbers.type('-'), length);
        }
        Checks.badState("the 41st character after clearing", () -> numbers.type('x'));
        Checks.same("typing is not recorded", numbers.recordedStates(), 0);
    }

    private static void fullTexts() {
        CountedNumbers numbers = new CountedNumbers();
        Checks.write(numbers, Checks.repeated("x+", 19) + "10");
        Checks.same("a text of 40 is valid", numbers.textError(), -1);
        Checks.same("and can be defined by", numbers.define(0), 39);
        Checks.badState("a digit more", () -> numbers.type('0'));
        Checks.same("the text stays valid", numbers.textError(), -1);
        Checks.same("and stays the same", numbers.define(1), 39);
        Checks.same("value of the text", numbers.valueAt(1, 1), 29);
        Checks.same("its length", numbers.clearText(), 40);
        Checks.write(numbers, Checks.repeated("x+", 19) + "1");
        Checks.same("a text of 39", numbers.define(2), 39);
        Checks.same("value of the text of 39", numbers.valueAt(2, 1), 20);
        Checks.same("the 40th character", numbers.type('5'), 40);
        Checks.same("the text then", numbers.define(2), 39);
        Checks.same("its value then", numbers.valueAt(2, 1), 34);
    }

    // "character: any character"
    private static void typeAnyCharacter() {
        for (int first = 0; first <= 0xffff; first += 40) {
            CountedNumbers numbers = new CountedNumbers();
            for (int next = 0; next < 40 && first + next <= 0xffff; next++) {
                Checks.same("type " + (first + next), numbers.type((char) (first + next)), next + 1);
            }
        }
    }

    // Promise 6: "Empties the text.", "Returns the length that it had."
    private static void clearAnswersTheLength() {
        for (int length = 0; length <= 40; length++) {
            CountedNumbers numbers = new CountedNumbers();
            for (int typed = 0; typed < length; typed++) {
                numbers.type(typed % 2 == 0 ? 'x' : '*');
            }
            Checks.same("length that it had", numbers.clearText(), length);
            Checks.same("error of an empty text", numbers.textError(), 0);
            Checks.same("length of an empty text", numbers.clearText(), 0);
            Checks.same("the first character after clearing", numbers.type('7'), 1);
            Checks.same("nothing is left of the old text", numbers.define(0), 1);
            Checks.same("the value of the new text", numbers.valueAt(0, 1), 7);
            Checks.same("the length of the new text", numbers.clearText(), 1);
        }
    }

    // Promise 7: "Finds the first error of the text.", "Returns its index; NONE if the text is valid."
    private static void errors() {
        String[] valid = {"x", "0", "7", "10", "999", "x+1", "-x", "--x", "-5", "(x)", "((x))", "x^0", "x^9",
            "-x^2", "(x)^2", "f(x)^2", "2*-x", "2--3", "2---3", "x/x*x/x", "f(g(h(k(x))))", "k(1)", "(-(x))",
            "f(-x)", "x^2*x^3-x^4/5", "100*200", "0+0", "-f(x)", "(x^2)^3"};
        for (String text : valid) {
            Checks.same("error of " + text, Checks.errorOf(text), -1);
        }
        Object[][] invalid = {
            {"", 0}, {"+", 0}, {"*x", 0}, {"/", 0}, {"^2", 0}, {")", 0}, {"y", 0}, {" x", 0}, {"X", 0}, {"F(x)", 0},
            {"x ", 1}, {"x+", 2}, {"x+*", 2}, {"x-", 2}, {"x-+", 2}, {"x*", 2}, {"x/", 2}, {"x^", 2}, {"x^x", 2},
            {"x^-2", 2}, {"x^(2)", 2}, {"x^12", 3}, {"x^2^2", 3}, {"x^2x", 3}, {"x^2(", 3}, {"xx", 1}, {"x2", 1},
            {"2x", 1}, {"x(", 1}, {"2(", 1}, {")x", 0}, {"(x)(", 3}, {"(x)x", 3}, {"(x)2", 3}, {"()", 1}, {"(", 1},
            {"(x", 2}, {"((x)", 4}, {"x)", 1}, {"(x))", 3}, {"f", 1}, {"fx", 1}, {"f2", 1}, {"f)", 1}, {"f(", 2},
            {"f()", 2}, {"f(x", 3}, {"f(x))", 4}, {"ff", 1}, {"f-", 1}, {"01", 1}, {"00", 1}, {"1000", 3},
            {"9999", 3}, {"x+01", 3}, {"x^2.", 3}, {"-", 1}, {"--", 2}, {"-)", 1}, {"-^", 1}, {"-+", 1}, {"x+)", 2},
            {"(x+)", 3}, {"(x^2", 4}, {"x\u00b2", 1}, {"12y", 2}, {"i(x)", 0}, {"e", 0}, {"j(", 0}, {"x,", 1},
            {"3 ", 1}, {"0^0^", 3}, {"(1)^2^3", 5}, {":", 0}, {"1:", 1}, {"1/", 2}, {"x^:", 2}, {"x^/", 2}};
        for (Object[] pair : invalid) {
            Checks.same("error of " + pair[0], Checks.errorOf((String) pair[0]), (Integer) pair[1]);
        }
    }

    // "(of any length)", "if there is none, but the text ends too early (an empty text does), it is
    // the length of the text"
    private static void errorsAtTheEndsOfATextOfForty() {
        String[] early = {Checks.repeated("(", 40), Checks.repeated("-", 40), Checks.repeated("f(", 20),
            Checks.repeated("x^2*", 10), Checks.repeated("(", 39) + "x", Checks.repeated("(", 20) + "x"
            + Checks.repeated(")", 19), Checks.repeated("-", 39) + "k", Checks.repeated("-", 38) + "x^",
            Checks.repeated("x+", 20)};
        for (String text : early) {
            Checks.same("error of " + text, Checks.errorOf(text), 40);
        }
        String[] valid = {Checks.repeated("-", 39) + "x", Checks.repeated("-", 39) + "0",
            Checks.repeated("-", 37) + "999", Checks.repeated("-", 37) + "x^0", Checks.repeated("x/", 19) + "10",
            Checks.repeated("(", 18) + "f(x)" + Checks.repeated(")", 18)};
        for (String text : valid) {
            Checks.same("error of " + text, Checks.errorOf(text), -1);
        }
        String[] wrongAtTheLast = {Checks.repeated("-", 39) + ")",
            Checks.repeated("(", 19) + "x" + Checks.repeated(")", 20),
            Checks.repeated("-", 36) + "9990", Checks.repeated("-", 36) + "x^22", Checks.repeated("-", 38) + "00",
            Checks.repeated("-", 38) + "xx", Checks.repeated("-", 38) + "gg", Checks.repeated("x+", 19) + "x?"};
        for (String text : wrongAtTheLast) {
            Checks.same("error of " + text, Checks.errorOf(text), 39);
        }
        Checks.same("error of 40 wrong ones", Checks.errorOf(Checks.repeated("y", 40)), 0);
        Checks.same("the first of many errors", Checks.errorOf("x+1x" + Checks.repeated(")", 36)), 3);
    }

    /** What may come behind each beginning: characters that end a valid text, and others. */
    private static void everyCharacterInEveryPlace() {
        String toAtom = "-(fghk";
        place("", DIGITS + "x", toAtom);
        place("-", DIGITS + "x", toAtom);
        place("x+", DIGITS + "x", toAtom);
        place("x-", DIGITS + "x", toAtom);
        place("x*", DIGITS + "x", toAtom);
        place("x/", DIGITS + "x", toAtom);
        place("(", "", DIGITS + "x" + toAtom);
        place("k(", "", DIGITS + "x" + toAtom);
        place("(x+", "", DIGITS + "x" + toAtom);
        place("f", "", "(");
        place("-h", "", "(");
        place("x", "", BEHIND_ATOM);
        place("-x", "", BEHIND_ATOM);
        place("(x)", "", BEHIND_ATOM);
        place("g(x)", "", BEHIND_ATOM);
        place("(x", ")", BEHIND_ATOM);
        place("((x", "", ")" + BEHIND_ATOM);
        place("((x)", ")", BEHIND_ATOM);
        place("f(-x", ")", BEHIND_ATOM);
        place("x^", DIGITS, "");
        place("(x^", "", DIGITS);
        place("x^2", "", BEHIND_POWER);
        place("(x^9", ")", BEHIND_POWER);
        place("x^2*3^0", "", BEHIND_POWER);
        place("0", "", BEHIND_ATOM);
        place("x-0", "", BEHIND_ATOM);
        place("1", DIGITS, BEHIND_ATOM);
        place("9", DIGITS, BEHIND_ATOM);
        place("10", DIGITS, BEHIND_ATOM);
        place("x+99", DIGITS, BEHIND_ATOM);
        place("100", "", BEHIND_ATOM);
        place("999", "", BEHIND_ATOM);
        place("x*100", "", BEHIND_ATOM);
        place("(7", ")", DIGITS + BEHIND_ATOM);
        place("f(123", ")", BEHIND_ATOM);
    }

    private static void place(String before, String ends, String goesOn) {
        CountedNumbers numbers = new CountedNumbers();
        for (int sign = 0; sign <= 0xffff; sign++) {
            // All of the first ones, and of the others those that have a meaning in their low byte.
            if (sign < 1024 || "x0123456789+-*/^()fghk".indexOf(sign & 0xff) >= 0) {
                if (numbers.callsLeft() < before.length() + 3) {
                    numbers = new CountedNumbers();
                }
                Checks.write(numbers, before + (char) sign);
                int due = ends.indexOf(sign) >= 0 ? -1 : before.length() + (goesOn.indexOf(sign) >= 0 ? 1 : 0);
                Checks.same("error of " + before + " and character " + sign, numbers.textError(), due);
            }
        }
    }

    // "a number from 0 to 999 without leading zeros"
    private static void everyNumber() {
        for (int number = 0; number <= 1100; number++) {
            Checks.same("error of " + number, Checks.errorOf("" + number), number <= 999 ? -1 : 3);
            Checks.same("error of 0" + number, Checks.errorOf("0" + number), 1);
            CountedNumbers numbers = new CountedNumbers();
            Checks.write(numbers, "x-" + number);
            if (number <= 999) {
                Checks.same("nodes of x-" + number, numbers.define(0), 3);
                Checks.same("value of x-" + number, numbers.valueAt(0, 0), Math.floorMod(-number, 97));
            } else {
                Checks.badState("define by x-" + number, () -> numbers.define(0));
            }
        }
    }

    private static void askingChangesNothing() {
        CountedNumbers numbers = new CountedNumbers();
        Checks.write(numbers, "12");
        Checks.same("the text is valid", numbers.textError(), -1);
        Checks.same("asked again", numbers.textError(), -1);
        Checks.same("least to define", numbers.leastToDefine(), 0);
        Checks.same("nothing is recorded", numbers.recordedStates(), 0);
        Checks.same("another digit", numbers.type('3'), 3);
        Checks.same("least to define then", numbers.leastToDefine(), 0);
        Checks.same("define", numbers.define(0), 1);
        Checks.same("value", numbers.valueAt(0, 0), 123 % 97);
        numbers.type('4');
        Checks.same("a wrong text", numbers.textError(), 3);
        Checks.same("f stays", numbers.valueAt(0, 0), 123 % 97);
    }

    /** Each text of a row after each other one, on one object, against the text on a new object. */
    private static void earlierTextsLeaveNothing() {
        String[] texts = {"", "x", "7", "12", "999", "1+2", "x+1", "x-12", "f(3", "f(x", "((x", "(x))", "-", "--5",
            "x^", "x^2", "x5", "15", "x^23", "x^2^3", "(x)5", "f", "f(", "k(x)+12", "k(", "h(1)", "1000", "05", ")",
            "x+-(", "x*-f(2", "*"};
        for (String before : texts) {
            for (String text : texts) {
                CountedNumbers numbers = new CountedNumbers();
                Checks.write(numbers, before);
                outcome(numbers);
                Checks.write(numbers, text);
                CountedNumbers others = new CountedNumbers();
                Checks.write(others, text);
                Checks.same(text + " behind " + before, outcome(numbers).equals(outcome(others)), true);
            }
        }
    }

    private static String outcome(CountedNumbers numbers) {
        int error = numbers.textError();
        if (error != -1) {
            Checks.badState("least for a text that is not valid", numbers::leastToDefine);
            Checks.badState("define by a text that is not valid", () -> numbers.define(3));
            return "error " + error;
        }
        int least = numbers.leastToDefine();
        if (least == -1) {
            Checks.badState("define by a text that uses k", () -> numbers.define(3));
            return "uses k";
        }
        numbers.define(3);
        return least + " " + numbers.nodesOf(3) + " " + numbers.unlikeNodesOf(3) + " " + numbers.depthOf(3) + " "
                + numbers.valueAt(3, 0) + " " + numbers.valueAt(3, 96) + " " + numbers.slopeByRules(3, 5);
    }

    private static void manyTextsThatEndTooEarly() {
        String[] early = {Checks.repeated("(", 40), Checks.repeated("x+(", 13), Checks.repeated("-", 40),
            Checks.repeated("f(", 20), Checks.repeated("x*2^3+(", 5)};
        for (String text : early) {
            CountedNumbers numbers = new CountedNumbers();
            Checks.write(numbers, text);
            for (int times = 0; times < 60; times++) {
                Checks.same("error of " + text, numbers.textError(), text.length());
                Checks.badState("least for " + text, numbers::leastToDefine);
                Checks.badState("define by " + text, () -> numbers.define(3));
            }
            Checks.same("define then", Checks.define(numbers, 3, "x^2-(x+1)*-(f(2*x)/5)"), 14);
            Checks.same("unlike nodes then", numbers.unlikeNodesOf(3), 12);
            Checks.same("depth then", numbers.depthOf(3), 7);
            Checks.same("the value then", numbers.valueAt(3, 5), 37);
        }
    }

    /** All short texts, with what is valid told by a matcher that tries every split. */
    private static void errorsByTheirMeaning() {
        String alphabet = "x0f()-^*";
        everyText("", alphabet, 5);
        everyText("", "10^-", 6);
    }

    private static void everyText(String text, String alphabet, int left) {
        Checks.same("error of " + text, Checks.errorOf(text), meantError(text));
        if (left > 0) {
            for (int index = 0; index < alphabet.length(); index++) {
                everyText(text + alphabet.charAt(index), alphabet, left - 1);
            }
        }
    }

    private static int meantError(String text) {
        for (int length = 1; length <= text.length(); length++) {
            if (!canGoOn(text.substring(0, length))) {
                return length - 1;
            }
        }
        return isSum(text) ? -1 : text.length();
    }

    private static boolean canGoOn(String text) {
        String[] nearest = {"", "x", "(x)", "0"};
        for (String end : nearest) {
            for (int parentheses = 0; parentheses <= text.length(); parentheses++) {
                if (isSum(text + end + Checks.repeated(")", parentheses))) {
                    return true;
                }
            }
        }
        return false;
    }

    private static boolean isSum(String text) {
        for (int index = 1; index < text.length(); index++) {
            if ("+-".indexOf(text.charAt(index)) >= 0 && isSum(text.substring(0, index))
                    && isTerm(text.substring(index + 1))) {
                return true;
            }
        }
        return isTerm(text);
    }

    private static boolean isTerm(String text) {
        for (int index = 1; index < text.length(); index++) {
            if ("*/".indexOf(text.charAt(index)) >= 0 && isTerm(text.substring(0, index))
                    && isPower(text.substring(index + 1))) {
                return true;
            }
        }
        return isPower(text);
    }

    private static boolean isPower(String text) {
        return isAtom(text.matches("(?s).*\\^[0-9]") ? text.substring(0, text.length() - 2) : text);
    }

    private static boolean isAtom(String text) {
        if (text.equals("x") || text.matches("0|[1-9][0-9]?[0-9]?")) {
            return true;
        }
        if (text.startsWith("-")) {
            return isAtom(text.substring(1));
        }
        String rest = text.matches("(?s)[fghk].*") ? text.substring(1) : text;
        return rest.startsWith("(") && rest.endsWith(")") && rest.length() > 2
                && isSum(rest.substring(1, rest.length() - 1));
    }

    // Promise 8: "Finds the function with the least number that could be defined by the text.",
    // "Returns the function; NONE if there is none, as the text uses "k"."
    private static void least() {
        Object[][] due = {{"x", 0}, {"0", 0}, {"3-x", 0}, {"f(x)", 1}, {"g(x)", 2}, {"h(x)", 3}, {"k(x)", -1},
            {"f(x)+g(x)", 2}, {"g(x)+f(x)", 2}, {"f(h(g(1)))", 3}, {"k(f(x))", -1}, {"f(k(x))", -1}, {"0*k(0)", -1},
            {"h(x)-f(x)-g(x)", 3}, {"f(f(f(f(x))))", 1}, {"k(1)/h(1)", -1}};
        for (Object[] pair : due) {
            CountedNumbers numbers = new CountedNumbers();
            int least = (Integer) pair[1];
            Checks.write(numbers, (String) pair[0]);
            Checks.same("least for " + pair[0], numbers.leastToDefine(), least);
            Checks.same("asked again for " + pair[0], numbers.leastToDefine(), least);
            Checks.same("nothing is recorded", numbers.recordedStates(), 0);
            for (int function = 0; function < 4; function++) {
                int f = function;
                if (least >= 0 && f >= least) {
                    Checks.same("define by " + pair[0], numbers.define(f), numbers.nodesOf(f));
                } else {
                    Checks.badState("define by " + pair[0], () -> numbers.define(f));
                }
            }
        }
    }

    // "Throws IllegalStateException if the text is not valid"
    private static void leastRefuses() {
        String[] invalid = {"", "k(x", "x)", "k", "x+", "f()", "1000", "k(x)k", "(", "?"};
        for (String text : invalid) {
            CountedNumbers numbers = new CountedNumbers();
            Checks.write(numbers, text);
            Checks.badState("least for " + text, numbers::leastToDefine);
            Checks.same("the text stays", numbers.clearText(), text.length());
        }
    }
}
