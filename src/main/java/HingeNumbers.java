import java.util.Arrays;

/**
 * Hinge numbers: values with slopes, and four functions told by expressions, reckoned modulo a
 * prime.
 */
public final class HingeNumbers {
    public static final int NONE = -1;

    private static final int FUNCTIONS = 4;
    private static final int TEXT_LIMIT = 40;
    private static final int HISTORY_LIMIT = 4;
    private static final int FIRST_MODULUS = 97;
    private static final int GREATEST_MODULUS = 199;

    // The kinds of nodes; a sign between two parts is its own kind.
    private static final int NUMBER = '0';
    private static final int X = 'x';
    private static final int NEGATE = 'n';
    private static final int ADD = '+';
    private static final int SUBTRACT = '-';
    private static final int MULTIPLY = '*';
    private static final int DIVIDE = '/';
    private static final int POWER = '^';
    private static final int CALL = 'c';

    private final Text text;
    private final Parser parser;
    private final History history;
    private final Reckoner reckoner;
    private State snapshot;

    public HingeNumbers() {
        text = new Text();
        parser = new Parser();
        history = new History();
        reckoner = new Reckoner();
        snapshot = null;
    }

    // ---- actions

    public int define(int function) throws IndexOutOfBoundsException, IllegalStateException {
        requireFunction(function);
        if (parser.firstError(text) != NONE) {
            throw new IllegalStateException("the text is not valid");
        }
        if (parser.leastDefinable() > function) {
            throw new IllegalStateException("the text uses a function whose number is not less");
        }
        Expression expression = parser.toExpression();
        act(reckoner.state().withExpression(function, expression));
        return expression.size();
    }

    public int copy(int function, int other) throws IndexOutOfBoundsException, IllegalStateException {
        requireFunction(function);
        requireFunction(other);
        Expression expression = reckoner.state().expressionOf(other);
        if (expression.leastDefinable() > function) {
            throw new IllegalStateException("the expression uses a function whose number is not less");
        }
        act(reckoner.state().withExpression(function, expression));
        return expression.size();
    }

    public int setModulus(int prime) throws IllegalArgumentException {
        if (prime > GREATEST_MODULUS || !isPrime(prime)) {
            throw new IllegalArgumentException("the modulus must be a prime from 2 to 199");
        }
        int previous = prime();
        act(reckoner.state().withPrime(prime));
        return previous;
    }

    // ---- text

    public int type(char character) throws IllegalStateException {
        if (text.isFull()) {
            throw new IllegalStateException("the text is full");
        }
        return text.append(character);
    }

    public int clearText() {
        return text.empty();
    }

    public int textError() {
        return parser.firstError(text);
    }

    public int leastToDefine() throws IllegalStateException {
        if (parser.firstError(text) != NONE) {
            throw new IllegalStateException("the text is not valid");
        }
        int least = parser.leastDefinable();
        return least < FUNCTIONS ? least : NONE;
    }

    // ---- undo, snapshot

    public int undo() throws IllegalStateException {
        State last = history.takeBack();
        if (last == null) {
            throw new IllegalStateException("no state is recorded");
        }
        reckoner.moveTo(last);
        return history.count();
    }

    public int takeSnapshot() {
        snapshot = reckoner.state();
        return prime();
    }

    public int restoreSnapshot() throws IllegalStateException {
        if (snapshot == null) {
            throw new IllegalStateException("there is no snapshot");
        }
        act(snapshot);
        return prime();
    }

    // ---- expressions

    public int nodesOf(int function) throws IndexOutOfBoundsException {
        requireFunction(function);
        return reckoner.state().expressionOf(function).size();
    }

    public int unlikeNodesOf(int function) throws IndexOutOfBoundsException {
        requireFunction(function);
        return reckoner.state().expressionOf(function).unlike();
    }

    public int depthOf(int function) throws IndexOutOfBoundsException {
        requireFunction(function);
        return reckoner.state().expressionOf(function).depth();
    }

    // ---- values and slopes

    public int modulus() {
        return prime();
    }

    public int valueAt(int function, int x) throws IndexOutOfBoundsException, IllegalArgumentException {
        requireFunction(function);
        requireNumber(x);
        return reckoner.value(function, x);
    }

    public int slopeByHinges(int function, int x) throws IndexOutOfBoundsException, IllegalArgumentException {
        requireFunction(function);
        requireNumber(x);
        return reckoner.hingeSlope(function, x);
    }

    public int slopeByRules(int function, int x) throws IndexOutOfBoundsException, IllegalArgumentException {
        requireFunction(function);
        requireNumber(x);
        return reckoner.ruleSlope(function, x);
    }

    public int chainByProducts(int outer, int inner, int x)
            throws IndexOutOfBoundsException, IllegalArgumentException {
        requireFunction(outer);
        requireFunction(inner);
        requireNumber(x);
        int middle = reckoner.value(inner, x);
        if (middle == NONE) {
            return NONE;
        }
        int outerSlope = reckoner.ruleSlope(outer, middle);
        if (outerSlope == NONE) {
            return NONE;
        }
        return reckoner.state().numbers().multiply(outerSlope, reckoner.ruleSlope(inner, x));
    }

    public int chainByFeeding(int outer, int inner, int x)
            throws IndexOutOfBoundsException, IllegalArgumentException {
        requireFunction(outer);
        requireFunction(inner);
        requireNumber(x);
        int middle = reckoner.value(inner, x);
        if (middle == NONE) {
            return NONE;
        }
        return reckoner.feed(outer, middle, reckoner.hingeSlope(inner, x));
    }

    // ---- what a function does everywhere

    public int bansOf(int function) throws IndexOutOfBoundsException {
        requireFunction(function);
        return countValues(function, NONE);
    }

    public int flatsOf(int function) throws IndexOutOfBoundsException {
        requireFunction(function);
        int flats = 0;
        for (int x = 0; x < prime(); x++) {
            if (reckoner.hingeSlope(function, x) == 0) {
                flats++;
            }
        }
        return flats;
    }

    public int firstFlat(int function) throws IndexOutOfBoundsException {
        requireFunction(function);
        for (int x = 0; x < prime(); x++) {
            if (reckoner.hingeSlope(function, x) == 0) {
                return x;
            }
        }
        return NONE;
    }

    public int rootsOf(int function) throws IndexOutOfBoundsException {
        requireFunction(function);
        return countValues(function, 0);
    }

    public boolean isSame(int function, int other) throws IndexOutOfBoundsException {
        requireFunction(function);
        requireFunction(other);
        for (int x = 0; x < prime(); x++) {
            if (reckoner.value(function, x) != reckoner.value(other, x)) {
                return false;
            }
        }
        return true;
    }

    public int step(int function, int x) throws IndexOutOfBoundsException, IllegalArgumentException {
        requireFunction(function);
        requireNumber(x);
        return nextOf(function, x);
    }

    public int stepsToRoot(int function, int x) throws IndexOutOfBoundsException, IllegalArgumentException {
        requireFunction(function);
        requireNumber(x);
        int place = x;
        // There are no more places than the modulus, so after as many steps one has come twice.
        for (int steps = 0; steps < prime() && place != NONE; steps++) {
            if (reckoner.value(function, place) == 0) {
                return steps;
            }
            place = nextOf(function, place);
        }
        return NONE;
    }

    public int recordedStates() {
        return history.count();
    }

    // ---- what the calls share

    private int prime() {
        return reckoner.state().numbers().prime();
    }

    private void act(State next) {
        history.record(reckoner.state());
        reckoner.moveTo(next);
    }

    private int countValues(int function, int value) {
        int count = 0;
        for (int x = 0; x < prime(); x++) {
            if (reckoner.value(function, x) == value) {
                count++;
            }
        }
        return count;
    }

    private int nextOf(int function, int x) {
        int value = reckoner.value(function, x);
        int slope = reckoner.hingeSlope(function, x);
        if (value == NONE || slope == 0) {
            return NONE;
        }
        Remainders numbers = reckoner.state().numbers();
        return numbers.subtract(x, numbers.divide(value, slope));
    }

    private void requireFunction(int function) {
        if (function < 0 || function >= FUNCTIONS) {
            throw new IndexOutOfBoundsException("there is no such function");
        }
    }

    private void requireNumber(int x) {
        if (x < 0 || x >= prime()) {
            throw new IllegalArgumentException("x is out of range");
        }
    }

    private static boolean isPrime(int number) {
        for (int divisor = 2; divisor <= GREATEST_MODULUS && divisor < number; divisor++) {
            if (number % divisor == 0) {
                return false;
            }
        }
        return number >= 2;
    }

    private static int functionOf(int letter) {
        switch (letter) {
            case 'f':
                return 0;
            case 'g':
                return 1;
            case 'h':
                return 2;
            case 'k':
                return 3;
            default:
                return NONE;
        }
    }

    private static int at(int[] row, int index) {
        return index >= 0 && index < row.length ? row[index] : 0;
    }

    private static void put(int[] row, int index, int number) {
        if (index >= 0 && index < row.length) {
            row[index] = number;
        }
    }

    /** The characters that have been typed. */
    private static final class Text {
        private final char[] characters = new char[TEXT_LIMIT];
        private int length = 0;

        int length() {
            return length;
        }

        char characterAt(int index) {
            return index >= 0 && index < characters.length ? characters[index] : 0;
        }

        boolean isFull() {
            return length >= characters.length;
        }

        int append(char character) {
            if (length >= 0 && length < characters.length) {
                characters[length] = character;
                length++;
            }
            return length;
        }

        int empty() {
            int previous = length;
            length = 0;
            return previous;
        }
    }

    /** A stack of numbers, never higher than a text is long. */
    private static final class NumberStack {
        private final int[] items = new int[TEXT_LIMIT];
        private int count = 0;

        int count() {
            return count;
        }

        void clear() {
            count = 0;
        }

        void push(int item) {
            if (count >= 0 && count < items.length) {
                items[count] = item;
                count++;
            }
        }

        int top() {
            return count > 0 && count <= items.length ? items[count - 1] : NONE;
        }

        int pop() {
            if (count <= 0 || count > items.length) {
                return NONE;
            }
            count--;
            return items[count];
        }
    }

    /** A row of numbers for each function. */
    private static final class Table {
        private final int width;
        private final int[] cells;

        Table(int width) {
            this.width = Math.min(Math.max(0, width), GREATEST_MODULUS);
            cells = new int[FUNCTIONS * this.width];
        }

        void fill(int number) {
            Arrays.fill(cells, number);
        }

        int get(int function, int column) {
            return column >= 0 && column < width ? at(cells, function * width + column) : 0;
        }

        void set(int function, int column, int number) {
            if (column >= 0 && column < width) {
                put(cells, function * width + column, number);
            }
        }
    }

    /** Reckoning with remainders modulo a prime. */
    private static final class Remainders {
        private final int prime;

        Remainders(int prime) {
            this.prime = prime;
        }

        int prime() {
            return prime;
        }

        int of(int number) {
            if (prime <= 0) {
                return 0;
            }
            int rest = number % prime;
            return rest < 0 ? rest + prime : rest;
        }

        int add(int first, int second) {
            return of(first + second);
        }

        int subtract(int first, int second) {
            return of(first - second);
        }

        int multiply(int first, int second) {
            return of(first * second);
        }

        /** The divisor must not be 0. */
        int divide(int number, int divisor) {
            // By Fermat's little theorem this power, multiplied by the divisor, is 1.
            return of(number * power(divisor, prime - 2));
        }

        int power(int base, int exponent) {
            if (prime <= 0) {
                return 0;
            }
            int result = 1;
            int square = base;
            for (int left = exponent; left > 0; left = left / 2) {
                if ((left & 1) == 1) {
                    result = result * square % prime;
                }
                square = square * square % prime;
            }
            return result;
        }

        /** How often the slope of u counts in the slope of a power of u. */
        int powerSlope(int u, int exponent) {
            return of(exponent * power(u, exponent - 1));
        }
    }

    /**
     * The nodes of an expression, each one behind those that it is made of, so that the last one
     * is the whole. A part that a node does not have is NONE.
     */
    private static final class Expression {
        private final int[] kinds;
        private final int[] numbers;
        private final int[] lefts;
        private final int[] rights;
        private final int depth;
        private final int unlike;
        private final int leastDefinable;

        Expression(int[] kinds, int[] numbers, int[] lefts, int[] rights,
                int depth, int unlike, int leastDefinable) {
            this.kinds = kinds;
            this.numbers = numbers;
            this.lefts = lefts;
            this.rights = rights;
            this.depth = depth;
            this.unlike = unlike;
            this.leastDefinable = leastDefinable;
        }

        static Expression ofX() {
            return new Expression(new int[] {X}, new int[] {0}, new int[] {NONE}, new int[] {NONE}, 1, 1, 0);
        }

        int size() {
            return kinds.length;
        }

        int depth() {
            return depth;
        }

        int unlike() {
            return unlike;
        }

        /** The least number of a function that it could tell; as many as there are, if none. */
        int leastDefinable() {
            return leastDefinable;
        }

        int kind(int node) {
            return at(kinds, node);
        }

        int number(int node) {
            return at(numbers, node);
        }

        int left(int node) {
            return node >= 0 && node < lefts.length ? lefts[node] : NONE;
        }

        int right(int node) {
            return node >= 0 && node < rights.length ? rights[node] : NONE;
        }
    }

    /** Puts the nodes of an expression together while it is read from the left to the right. */
    private static final class Builder {
        private final int[] kinds = new int[TEXT_LIMIT];
        private final int[] numbers = new int[TEXT_LIMIT];
        private final int[] lefts = new int[TEXT_LIMIT];
        private final int[] rights = new int[TEXT_LIMIT];
        private final int[] depths = new int[TEXT_LIMIT];
        private final int[] likes = new int[TEXT_LIMIT];
        private int size = 0;
        private int leastDefinable = 0;
        // Nodes that no other node is made of yet.
        private final NumberStack loose = new NumberStack();
        // Signs, "(" and letters of functions whose right part has not been read to its end.
        private final NumberStack waiting = new NumberStack();

        void clear() {
            size = 0;
            leastDefinable = 0;
            loose.clear();
            waiting.clear();
        }

        int leastDefinable() {
            return leastDefinable;
        }

        void await(int sign) {
            waiting.push(sign);
        }

        void addX() {
            addNode(X, 0, NONE, NONE);
            finishAtom();
        }

        /** Returns the node of the number, for digits that follow. */
        int addNumber(int digit) {
            int node = size;
            addNode(NUMBER, digit, NONE, NONE);
            finishAtom();
            return node;
        }

        int numberOf(int node) {
            return at(numbers, node);
        }

        void addDigit(int node, int digit) {
            put(numbers, node, at(numbers, node) * 10 + digit);
        }

        void addPower(int digit) {
            addNode(POWER, digit, loose.pop(), NONE);
        }

        void addSign(int sign) {
            joinFrom(levelOf(sign));
            waiting.push(sign);
        }

        void close() {
            joinFrom(1);
            int function = functionOf(waiting.pop());
            if (function != NONE) {
                addNode(CALL, function, loose.pop(), NONE);
                leastDefinable = Math.max(leastDefinable, function + 1);
            }
            finishAtom();
        }

        void finish() {
            joinFrom(1);
        }

        Expression toExpression() {
            return new Expression(filled(kinds), filled(numbers), filled(lefts), filled(rights),
                    at(depths, size - 1), countUnlike(), leastDefinable);
        }

        private int[] filled(int[] row) {
            return Arrays.copyOf(row, Math.max(0, size));
        }

        // A "-" before an atom makes an atom, so it is joined before a "^" behind it.
        private void finishAtom() {
            for (int left = waiting.count(); left > 0 && waiting.top() == NEGATE; left--) {
                addNode(waiting.pop(), 0, loose.pop(), NONE);
            }
        }

        private void joinFrom(int level) {
            for (int left = waiting.count(); left > 0 && levelOf(waiting.top()) >= level; left--) {
                int right = loose.pop();
                addNode(waiting.pop(), 0, loose.pop(), right);
            }
        }

        private static int levelOf(int sign) {
            switch (sign) {
                case ADD:
                case SUBTRACT:
                    return 1;
                case MULTIPLY:
                case DIVIDE:
                    return 2;
                default:
                    return 0;
            }
        }

        private void addNode(int kind, int number, int left, int right) {
            put(kinds, size, kind);
            put(numbers, size, number);
            put(lefts, size, left);
            put(rights, size, right);
            put(depths, size, 1 + Math.max(at(depths, left), at(depths, right)));
            loose.push(size);
            size = Math.min(size + 1, kinds.length);
        }

        // Only when all is read, as a number may still get digits.
        private int countUnlike() {
            int unlike = 0;
            for (int node = 0; node < size; node++) {
                int like = firstLike(node);
                put(likes, node, like);
                if (like == node) {
                    unlike++;
                }
            }
            return unlike;
        }

        private int firstLike(int node) {
            for (int earlier = 0; earlier < node; earlier++) {
                if (areAlike(earlier, node)) {
                    return earlier;
                }
            }
            return node;
        }

        private boolean areAlike(int first, int second) {
            return at(kinds, first) == at(kinds, second)
                    && at(numbers, first) == at(numbers, second)
                    && at(likes, at(lefts, first)) == at(likes, at(lefts, second))
                    && at(likes, at(rights, first)) == at(likes, at(rights, second));
        }
    }

    /** Reads a text as an expression, character by character. */
    private static final class Parser {
        // What must or may come next.
        private static final int ATOM = 0;
        private static final int OPENING = 1;
        private static final int EXPONENT = 2;
        private static final int BEHIND_ATOM = 3;
        private static final int BEHIND_POWER = 4;

        private final Builder builder = new Builder();
        private int awaited = ATOM;
        private int open = 0;
        private int numberNode = NONE;

        /** The index of the first error, NONE if the text is valid. */
        int firstError(Text text) {
            builder.clear();
            awaited = ATOM;
            open = 0;
            numberNode = NONE;
            for (int index = 0; index < text.length(); index++) {
                if (!takes(text.characterAt(index))) {
                    return index;
                }
            }
            if (open > 0 || (awaited != BEHIND_ATOM && awaited != BEHIND_POWER)) {
                return text.length();
            }
            builder.finish();
            return NONE;
        }

        /** Of the text that was read last, if it was valid. */
        int leastDefinable() {
            return builder.leastDefinable();
        }

        /** Of the text that was read last, if it was valid. */
        Expression toExpression() {
            return builder.toExpression();
        }

        private boolean takes(int sign) {
            switch (awaited) {
                case ATOM:
                    return takesAtom(sign);
                case OPENING:
                    return takesOpening(sign);
                case EXPONENT:
                    return takesExponent(sign);
                default:
                    return takesBehind(sign);
            }
        }

        private boolean takesAtom(int sign) {
            if (isDigit(sign)) {
                numberNode = builder.addNumber(sign - '0');
                awaited = BEHIND_ATOM;
            } else if (sign == 'x') {
                builder.addX();
                awaited = BEHIND_ATOM;
            } else if (sign == '-') {
                builder.await(NEGATE);
            } else if (sign == '(') {
                builder.await(sign);
                open++;
            } else if (functionOf(sign) != NONE) {
                builder.await(sign);
                awaited = OPENING;
            } else {
                return false;
            }
            return true;
        }

        private boolean takesOpening(int sign) {
            if (sign != '(') {
                return false;
            }
            open++;
            awaited = ATOM;
            return true;
        }

        private boolean takesExponent(int sign) {
            if (!isDigit(sign)) {
                return false;
            }
            builder.addPower(sign - '0');
            awaited = BEHIND_POWER;
            return true;
        }

        private boolean takesBehind(int sign) {
            if (isDigit(sign)) {
                return takesFurtherDigit(sign);
            }
            numberNode = NONE;
            if (sign == '^' && awaited == BEHIND_ATOM) {
                awaited = EXPONENT;
            } else if (sign == ')' && open > 0) {
                builder.close();
                open--;
                awaited = BEHIND_ATOM;
            } else if (sign == '+' || sign == '-' || sign == '*' || sign == '/') {
                builder.addSign(sign);
                awaited = ATOM;
            } else {
                return false;
            }
            return true;
        }

        // 0 would become a leading zero, and from 100 on there are three digits.
        private boolean takesFurtherDigit(int sign) {
            int number = numberNode == NONE ? 0 : builder.numberOf(numberNode);
            if (number < 1 || number > 99) {
                return false;
            }
            builder.addDigit(numberNode, sign - '0');
            return true;
        }

        private static boolean isDigit(int sign) {
            return sign >= '0' && sign <= '9';
        }
    }

    /** The expressions and the modulus; it never changes, so that it may be recorded as it is. */
    private static final class State {
        private final Remainders numbers;
        private final Expression f;
        private final Expression g;
        private final Expression h;
        private final Expression k;

        State(Remainders numbers, Expression f, Expression g, Expression h, Expression k) {
            this.numbers = numbers;
            this.f = f;
            this.g = g;
            this.h = h;
            this.k = k;
        }

        static State first() {
            Expression x = Expression.ofX();
            return new State(new Remainders(FIRST_MODULUS), x, x, x, x);
        }

        Remainders numbers() {
            return numbers;
        }

        Expression expressionOf(int function) {
            switch (function) {
                case 0:
                    return f;
                case 1:
                    return g;
                case 2:
                    return h;
                default:
                    return k;
            }
        }

        State withExpression(int function, Expression expression) {
            return new State(numbers,
                    function == 0 ? expression : f,
                    function == 1 ? expression : g,
                    function == 2 ? expression : h,
                    function == 3 ? expression : k);
        }

        State withPrime(int prime) {
            return new State(new Remainders(prime), f, g, h, k);
        }
    }

    /** The latest states before actions. */
    private static final class History {
        private final State[] states = new State[HISTORY_LIMIT];
        private int count = 0;

        int count() {
            return count;
        }

        void record(State state) {
            if (count >= states.length) {
                forgetOldest();
            }
            if (count >= 0 && count < states.length) {
                states[count] = state;
                count++;
            }
        }

        /** The state that was recorded last, null if there is none. */
        State takeBack() {
            int last = count - 1;
            if (last < 0 || last >= states.length) {
                return null;
            }
            count = last;
            return states[last];
        }

        private void forgetOldest() {
            for (int place = 1; place < states.length; place++) {
                states[place - 1] = states[place];
            }
            count = states.length - 1;
        }
    }

    /**
     * Reckons what the functions of the current state give, and keeps it until the state changes:
     * functions that use each other many times would be reckoned far too often otherwise. The
     * rows for nodes may be shared by all calls, as no function is at work twice at once.
     */
    private static final class Reckoner {
        private static final int UNKNOWN = -2;

        private final Table values = new Table(GREATEST_MODULUS);
        private final Table hingeSlopes = new Table(GREATEST_MODULUS);
        private final Table ruleSlopes = new Table(GREATEST_MODULUS);
        private final Table nodeValues = new Table(TEXT_LIMIT);
        private final Table nodeSlopes = new Table(TEXT_LIMIT);
        private final Table nodeWeights = new Table(TEXT_LIMIT);
        private State state = State.first();

        Reckoner() {
            forget();
        }

        State state() {
            return state;
        }

        void moveTo(State next) {
            state = next;
            forget();
        }

        private void forget() {
            values.fill(UNKNOWN);
            hingeSlopes.fill(UNKNOWN);
            ruleSlopes.fill(UNKNOWN);
        }

        // No expression uses a function that is not less; the test keeps it so that the calls of
        // functions by functions come to an end.
        private static boolean mayUse(int function, int used) {
            return used >= 0 && used < function;
        }

        /** The value of a function, NONE if it is banned. */
        private int value(int function, int x) {
            int known = values.get(function, x);
            if (known != UNKNOWN) {
                return known;
            }
            int found = reckonValues(function, x);
            values.set(function, x, found);
            return found;
        }

        /** Reckons the values of all nodes and returns that of the whole, NONE if it is banned. */
        private int reckonValues(int function, int x) {
            Expression expression = state.expressionOf(function);
            int found = NONE;
            for (int node = 0; node < expression.size(); node++) {
                found = expression.kind(node) == CALL
                        ? valueOfCall(function, node) : valueOfNode(function, node, x);
                if (found == NONE) {
                    return NONE;
                }
                nodeValues.set(function, node, found);
            }
            return found;
        }

        private int valueOfCall(int function, int node) {
            Expression expression = state.expressionOf(function);
            int used = expression.number(node);
            int u = nodeValues.get(function, expression.left(node));
            return mayUse(function, used) ? value(used, u) : NONE;
        }

        /** The value of a node that is no call, NONE if it is banned. */
        private int valueOfNode(int function, int node, int x) {
            Expression expression = state.expressionOf(function);
            Remainders numbers = state.numbers();
            int u = nodeValues.get(function, expression.left(node));
            int v = nodeValues.get(function, expression.right(node));
            switch (expression.kind(node)) {
                case NUMBER:
                    return numbers.of(expression.number(node));
                case X:
                    return x;
                case NEGATE:
                    return numbers.subtract(0, u);
                case ADD:
                    return numbers.add(u, v);
                case SUBTRACT:
                    return numbers.subtract(u, v);
                case MULTIPLY:
                    return numbers.multiply(u, v);
                case DIVIDE:
                    return v == 0 ? NONE : numbers.divide(u, v);
                case POWER:
                    return numbers.power(u, expression.number(node));
                default:
                    return NONE;
            }
        }

        /** The slope of a function by hinges, NONE if its value is banned. */
        private int hingeSlope(int function, int x) {
            int known = hingeSlopes.get(function, x);
            if (known != UNKNOWN) {
                return known;
            }
            int found = feed(function, x, 1);
            int whole = state.expressionOf(function).size() - 1;
            values.set(function, x, found == NONE ? NONE : nodeValues.get(function, whole));
            hingeSlopes.set(function, x, found);
            return found;
        }

        /**
         * Puts a hinge number in for the x of a function. Returns the slope of what the function
         * gives, NONE if its value is banned.
         */
        private int feed(int function, int x, int slopeOfX) {
            Expression expression = state.expressionOf(function);
            int found = NONE;
            for (int node = 0; node < expression.size(); node++) {
                found = expression.kind(node) == CALL
                        ? hingeOfCall(function, node) : hingeOfNode(function, node, x, slopeOfX);
                if (found == NONE) {
                    return NONE;
                }
                nodeSlopes.set(function, node, found);
            }
            return found;
        }

        /** Keeps the value of a node that is a call; returns its slope, NONE if it is banned. */
        private int hingeOfCall(int function, int node) {
            Expression expression = state.expressionOf(function);
            int used = expression.number(node);
            int u = nodeValues.get(function, expression.left(node));
            int slope = mayUse(function, used) ? hingeSlope(used, u) : NONE;
            if (slope == NONE) {
                return NONE;
            }
            nodeValues.set(function, node, values.get(used, u));
            return state.numbers().multiply(slope, nodeSlopes.get(function, expression.left(node)));
        }

        /** Keeps the value of a node that is no call; returns its slope, NONE if it is banned. */
        private int hingeOfNode(int function, int node, int x, int slopeOfX) {
            int value = valueOfNode(function, node, x);
            if (value == NONE) {
                return NONE;
            }
            nodeValues.set(function, node, value);
            return slopeOfNode(function, node, slopeOfX);
        }

        private int slopeOfNode(int function, int node, int slopeOfX) {
            Expression expression = state.expressionOf(function);
            Remainders numbers = state.numbers();
            int u = nodeValues.get(function, expression.left(node));
            int v = nodeValues.get(function, expression.right(node));
            int slopeOfU = nodeSlopes.get(function, expression.left(node));
            int slopeOfV = nodeSlopes.get(function, expression.right(node));
            switch (expression.kind(node)) {
                case X:
                    return slopeOfX;
                case NEGATE:
                    return numbers.subtract(0, slopeOfU);
                case ADD:
                    return numbers.add(slopeOfU, slopeOfV);
                case SUBTRACT:
                    return numbers.subtract(slopeOfU, slopeOfV);
                case MULTIPLY:
                    return numbers.of(slopeOfU * v + u * slopeOfV);
                case DIVIDE:
                    return numbers.divide(numbers.of(slopeOfU * v - u * slopeOfV), numbers.multiply(v, v));
                case POWER:
                    return numbers.multiply(numbers.powerSlope(u, expression.number(node)), slopeOfU);
                default:
                    return 0;
            }
        }

        /** The slope of a function by rules, NONE if its value is banned. */
        private int ruleSlope(int function, int x) {
            int known = ruleSlopes.get(function, x);
            if (known != UNKNOWN) {
                return known;
            }
            int found = reckonValues(function, x) == NONE ? NONE : sumOfWeights(function);
            ruleSlopes.set(function, x, found);
            return found;
        }

        /**
         * The weight of a node tells how often its slope counts in the slope of the whole. From
         * the outside in, each node passes its weight on to its parts; what comes to the places
         * of x, whose slope is 1, is the slope of the whole.
         */
        private int sumOfWeights(int function) {
            Expression expression = state.expressionOf(function);
            int whole = expression.size() - 1;
            int sum = 0;
            nodeWeights.set(function, whole, 1);
            for (int node = whole; node >= 0; node--) {
                if (expression.kind(node) == X) {
                    sum = state.numbers().add(sum, nodeWeights.get(function, node));
                } else {
                    passWeightOn(function, node);
                }
            }
            return sum;
        }

        private void passWeightOn(int function, int node) {
            Expression expression = state.expressionOf(function);
            Remainders numbers = state.numbers();
            int left = expression.left(node);
            int right = expression.right(node);
            int weight = nodeWeights.get(function, node);
            nodeWeights.set(function, left, numbers.multiply(weight, leftShare(function, node)));
            nodeWeights.set(function, right, numbers.multiply(weight, rightShare(function, node)));
        }

        /** How often the slope of the left or only part counts in the slope of a node. */
        private int leftShare(int function, int node) {
            Expression expression = state.expressionOf(function);
            Remainders numbers = state.numbers();
            int number = expression.number(node);
            int u = nodeValues.get(function, expression.left(node));
            int v = nodeValues.get(function, expression.right(node));
            switch (expression.kind(node)) {
                case NEGATE:
                    return numbers.subtract(0, 1);
                case ADD:
                case SUBTRACT:
                    return 1;
                case MULTIPLY:
                    return v;
                case DIVIDE:
                    return numbers.divide(v, numbers.multiply(v, v));
                case POWER:
                    return numbers.powerSlope(u, number);
                case CALL:
                    return mayUse(function, number) ? ruleSlope(number, u) : 0;
                default:
                    return 0;
            }
        }

        /** How often the slope of the right part counts in the slope of a node. */
        private int rightShare(int function, int node) {
            Expression expression = state.expressionOf(function);
            Remainders numbers = state.numbers();
            int u = nodeValues.get(function, expression.left(node));
            int v = nodeValues.get(function, expression.right(node));
            switch (expression.kind(node)) {
                case ADD:
                    return 1;
                case SUBTRACT:
                    return numbers.subtract(0, 1);
                case MULTIPLY:
                    return u;
                case DIVIDE:
                    return numbers.divide(numbers.subtract(0, u), numbers.multiply(v, v));
                default:
                    return 0;
            }
        }
    }
}
