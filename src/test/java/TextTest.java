/** Promises 5 to 8: type, clearText, textError, leastToDefine. */
public final class TextTest {
    public static void main(String[] args) {
        typeAndClear();
        errors();
        errorsByTheirMeaning();
        least();
        Checks.end();
    }

    private static void typeAndClear() {
        HingeNumbers numbers = new HingeNumbers();
        for (int length = 1; length <= 40; length++) {
            Checks.same("length", numbers.type(length % 2 == 1 ? 'x' : '+'), length);
        }
        Checks.same("a text of 40 that ends too early", numbers.textError(), 40);
        Checks.badState("the 41st character", numbers, () -> numbers.type('x'));
        Checks.badState("the 42nd character", numbers, () -> numbers.type('y'));
        Checks.same("length that it had", numbers.clearText(), 40);
        Checks.same("length of an empty text", numbers.clearText(), 0);
        Checks.same("any character", numbers.type('\uffff'), 1);
        Checks.same("any other character", numbers.type('\0'), 2);
        Checks.same("error at any character", numbers.textError(), 0);
        Checks.same("length of both", numbers.clearText(), 2);
        Checks.same("typing is not recorded", numbers.recordedStates(), 0);
        Checks.same("typing after clearing", numbers.type('x'), 1);
        Checks.same("x is valid", numbers.textError(), -1);
        Checks.write(numbers, Checks.repeated("(", 19) + "x" + Checks.repeated(")", 20));
        Checks.same("a ) too much", numbers.textError(), 39);
    }

    private static void errors() {
        String[] valid = {"x", "0", "7", "10", "999", "x+1", "-x", "--x", "-5", "(x)", "((x))", "x^0", "x^9",
            "-x^2", "(x)^2", "f(x)^2", "2*-x", "2--3", "2---3", "x/x*x/x", "f(g(h(k(x))))", "k(1)", "(-(x))",
            "f(-x)", "x^2*x^3-x^4/5", "100*200", "0+0", "-f(x)", "(x^2)^3"};
        for (String text : valid) {
            Checks.same("error of " + text, Checks.errorOf(text), -1);
        }
        Object[][] invalid = {
            {"", 0}, {"+", 0}, {"*x", 0}, {"/", 0}, {"^2", 0}, {")", 0}, {"y", 0}, {" x", 0}, {"X", 0}, {"F(x)", 0},
            {"x ", 1}, {"x+", 2}, {"x+*", 2}, {"x-", 2}, {"x-+", 2}, {"x*", 2}, {"x/", 2}, {"x^", 2}, {"x^x", 2},
            {"x^-2", 2}, {"x^(2)", 2}, {"x^12", 3}, {"x^2^2", 3}, {"x^2x", 3}, {"x^2(", 3}, {"xx", 1}, {"x2", 1},
            {"2x", 1}, {"x(", 1}, {"2(", 1}, {")x", 0}, {"(x)(", 3}, {"(x)x", 3}, {"(x)2", 3}, {"()", 1}, {"(", 1},
            {"(x", 2}, {"((x)", 4}, {"x)", 1}, {"(x))", 3}, {"f", 1}, {"fx", 1}, {"f2", 1}, {"f)", 1}, {"f(", 2},
            {"f()", 2}, {"f(x", 3}, {"f(x))", 4}, {"ff", 1}, {"f-", 1}, {"01", 1}, {"00", 1}, {"1000", 3},
            {"9999", 3}, {"x+01", 3}, {"x^2.", 3}, {"-", 1}, {"--", 2}, {"-)", 1}, {"-^", 1}, {"-+", 1}, {"x+)", 2},
            {"(x+)", 3}, {"(x^2", 4}, {"x\u00b2", 1}, {"12y", 2}, {"i(x)", 0}, {"e", 0}, {"j(", 0}, {"x,", 1},
            {"3 ", 1}, {"0^0^", 3}, {"(1)^2^3", 5}, {":", 0}, {"1:", 1}, {"1/", 2}, {"x^:", 2}, {"x^/", 2}};
        for (Object[] pair : invalid) {
            Checks.same("error of " + pair[0], Checks.errorOf((String) pair[0]), (Integer) pair[1]);
        }
    }

    /** All short texts, with what is valid told by a matcher that tries every split. */
    private static void errorsByTheirMeaning() {
        String alphabet = "x0f()-^*";
        everyText("", alphabet, 5);
        everyText("", "10^-", 6);
    }

    private static void everyText(String text, String alphabet, int left) {
        Checks.same("error of " + text, Checks.errorOf(text), meantError(text));
        if (left > 0) {
            for (int index = 0; index < alphabet.length(); index++) {
                everyText(text + alphabet.charAt(index), alphabet, left - 1);
            }
        }
    }

    private static int meantError(String text) {
        for (int length = 1; length <= text.length(); length++) {
            if (!canGoOn(text.substring(0, length))) {
                return length - 1;
            }
        }
        return isSum(text) ? -1 : text.length();
    }

    private static boolean canGoOn(String text) {
        String[] nearest = {"", "x", "(x)", "0"};
        for (String end : nearest) {
            for (int parentheses = 0; parentheses <= text.length(); parentheses++) {
                if (isSum(text + end + Checks.repeated(")", parentheses))) {
                    return true;
                }
            }
        }
        return false;
    }

    private static boolean isSum(String text) {
        for (int index = 1; index < text.length(); index++) {
            if ("+-".indexOf(text.charAt(index)) >= 0 && isSum(text.substring(0, index))
                    && isTerm(text.substring(index + 1))) {
                return true;
            }
        }
        return isTerm(text);
    }

    private static boolean isTerm(String text) {
        for (int index = 1; index < text.length(); index++) {
            if ("*/".indexOf(text.charAt(index)) >= 0 && isTerm(text.substring(0, index))
                    && isPower(text.substring(index + 1))) {
                return true;
            }
        }
        return isPower(text);
    }

    private static boolean isPower(String text) {
        return isAtom(text.matches("(?s).*\\^[0-9]") ? text.substring(0, text.length() - 2) : text);
    }

    private static boolean isAtom(String text) {
        if (text.equals("x") || text.matches("0|[1-9][0-9]?[0-9]?")) {
            return true;
        }
        if (text.startsWith("-")) {
            return isAtom(text.substring(1));
        }
        String rest = text.matches("(?s)[fghk].*") ? text.substring(1) : text;
        return rest.startsWith("(") && rest.endsWith(")") && rest.length() > 2
                && isSum(rest.substring(1, rest.length() - 1));
    }

    private static void least() {
        Object[][] due = {{"x", 0}, {"3-x", 0}, {"f(x)", 1}, {"g(x)", 2}, {"h(x)", 3}, {"k(x)", -1},
            {"f(x)+g(x)", 2}, {"g(x)+f(x)", 2}, {"f(h(g(1)))", 3}, {"k(f(x))", -1}, {"f(k(x))", -1}};
        for (Object[] pair : due) {
            HingeNumbers numbers = new HingeNumbers();
            Checks.write(numbers, (String) pair[0]);
            Checks.same("least for " + pair[0], numbers.leastToDefine(), (Integer) pair[1]);
            Checks.same("asked again for " + pair[0], numbers.leastToDefine(), (Integer) pair[1]);
            Checks.same("nothing is recorded", numbers.recordedStates(), 0);
        }
        HingeNumbers numbers = new HingeNumbers();
        Checks.badState("least for an empty text", numbers, numbers::leastToDefine);
        Checks.write(numbers, "k(x");
        Checks.badState("least for k(x", numbers, numbers::leastToDefine);
        Checks.write(numbers, "x)");
        Checks.badState("least for x)", numbers, numbers::leastToDefine);
    }
}
