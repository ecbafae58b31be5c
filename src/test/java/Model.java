import java.util.ArrayList;
import java.util.Arrays;
import java.util.HashMap;
import java.util.HashSet;
import java.util.List;
import java.util.Map;
import java.util.Set;

/**
 * The document once more, written another way: trees, a parser that goes down the grammar, and
 * slopes straight from the definitions. It answers a refused call by throwing what is due.
 */
final class Model {
    /** A node; its name tells its kind and its number or digit. */
    record Node(String name, List<Node> parts) {
        int nodes() {
            return 1 + parts.stream().mapToInt(Node::nodes).sum();
        }

        int depth() {
            return 1 + parts.stream().mapToInt(Node::depth).max().orElse(0);
        }

        void collect(Set<Node> all) {
            all.add(this);
            parts.forEach(part -> part.collect(all));
        }

        int greatestFunction() {
            int own = "fghk".indexOf(name);
            return Math.max(own, parts.stream().mapToInt(Node::greatestFunction).max().orElse(-1));
        }
    }

    record State(int prime, List<Node> functions) {
    }

    /** The value and the slope; a banned one is null. */
    record Hinge(int value, int slope) {
    }

    private static final class SyntaxError extends Exception {
        private static final long serialVersionUID = 1;
        final int index;

        SyntaxError(int index) {
            this.index = index;
        }
    }

    /** Goes down the grammar; what can't be read is an error at the place where it stands. */
    private static final class Descent {
        final String text;
        int place = 0;

        Descent(String text) {
            this.text = text;
        }

        char next() {
            return place < text.length() ? text.charAt(place) : '\n';
        }

        void expect(char sign) throws SyntaxError {
            if (place >= text.length() || next() != sign) {
                throw new SyntaxError(place);
            }
            place++;
        }

        Node whole() throws SyntaxError {
            Node sum = sum();
            if (place < text.length()) {
                throw new SyntaxError(place);
            }
            return sum;
        }

        Node sum() throws SyntaxError {
            Node sum = term();
            while (next() == '+' || next() == '-') {
                String sign = text.substring(place, ++place);
                sum = new Node(sign, List.of(sum, term()));
            }
            return sum;
        }

        Node term() throws SyntaxError {
            Node term = power();
            while (next() == '*' || next() == '/') {
                String sign = text.substring(place, ++place);
                term = new Node(sign, List.of(term, power()));
            }
            return term;
        }

        Node power() throws SyntaxError {
            Node atom = atom();
            if (next() != '^') {
                return atom;
            }
            place++;
            if ("0123456789".indexOf(next()) < 0) {
                throw new SyntaxError(place);
            }
            return new Node("^" + text.charAt(place++), List.of(atom));
        }

        Node atom() throws SyntaxError {
            char first = next();
            if (first == 'x') {
                place++;
                return new Node("x", List.of());
            }
            if ("fghk".indexOf(first) >= 0) {
                place++;
                expect('(');
                Node inner = sum();
                expect(')');
                return new Node(String.valueOf(first), List.of(inner));
            }
            if (first == '-') {
                place++;
                return new Node("-", List.of(atom()));
            }
            if (first == '(') {
                place++;
                Node inner = sum();
                expect(')');
                return inner;
            }
            int begin = place;
            while (place - begin < 3 && "0123456789".indexOf(next()) >= 0 && !text.startsWith("0", begin)) {
                place++;
            }
            if (first == '0') {
                place++;
            }
            if (place == begin) {
                throw new SyntaxError(place);
            }
            return new Node(text.substring(begin, place), List.of());
        }
    }

    private static final Node X = new Node("x", List.of());

    private State state = new State(97, List.of(X, X, X, X));
    private final List<State> recorded = new ArrayList<>();
    private State snapshot = null;
    private String text = "";
    private final Map<List<Integer>, Hinge> known = new HashMap<>();

    private static void function(int... numbers) {
        for (int number : numbers) {
            if (number < 0 || number > 3) {
                throw new IndexOutOfBoundsException();
            }
        }
    }

    private void number(int x) {
        if (x < 0 || x >= state.prime) {
            throw new IllegalArgumentException();
        }
    }

    private void act(State next) {
        recorded.add(state);
        if (recorded.size() > 4) {
            recorded.remove(0);
        }
        move(next);
    }

    private void move(State next) {
        state = next;
        known.clear();
    }

    private State with(int function, Node node) {
        List<Node> functions = new ArrayList<>(state.functions);
        functions.set(function, node);
        return new State(state.prime, functions);
    }

    private Node read() {
        try {
            return new Descent(text).whole();
        } catch (SyntaxError error) {
            throw new IllegalStateException();
        }
    }

    int define(int function) {
        function(function);
        return tell(function, read());
    }

    int copy(int function, int other) {
        function(function, other);
        return tell(function, state.functions.get(other));
    }

    private int tell(int function, Node node) {
        if (node.greatestFunction() >= function) {
            throw new IllegalStateException();
        }
        act(with(function, node));
        return node.nodes();
    }

    int setModulus(int prime) {
        boolean good = prime >= 2 && prime <= 199;
        for (int divisor = 2; good && divisor < prime; divisor++) {
            good = prime % divisor != 0;
        }
        if (!good) {
            throw new IllegalArgumentException();
        }
        int previous = state.prime;
        act(new State(prime, state.functions));
        return previous;
    }

    int type(char character) {
        if (text.length() == 40) {
            throw new IllegalStateException();
        }
        text += character;
        return text.length();
    }

    int clearText() {
        int length = text.length();
        text = "";
        return length;
    }

    int textError() {
        try {
            new Descent(text).whole();
            return -1;
        } catch (SyntaxError error) {
            return error.index;
        }
    }

    int leastToDefine() {
        int least = read().greatestFunction() + 1;
        return least == 4 ? -1 : least;
    }

    int undo() {
        if (recorded.isEmpty()) {
            throw new IllegalStateException();
        }
        move(recorded.remove(recorded.size() - 1));
        return recorded.size();
    }

    int takeSnapshot() {
        snapshot = state;
        return state.prime;
    }

    int restoreSnapshot() {
        if (snapshot == null) {
            throw new IllegalStateException();
        }
        act(snapshot);
        return state.prime;
    }

    int recordedStates() {
        return recorded.size();
    }

    int nodesOf(int function) {
        function(function);
        return state.functions.get(function).nodes();
    }

    int unlikeNodesOf(int function) {
        function(function);
        Set<Node> all = new HashSet<>();
        state.functions.get(function).collect(all);
        return all.size();
    }

    int depthOf(int function) {
        function(function);
        return state.functions.get(function).depth();
    }

    int modulus() {
        return state.prime;
    }

    private Hinge hinge(int value, int slope) {
        return new Hinge(Math.floorMod(value, state.prime), Math.floorMod(slope, state.prime));
    }

    private int quotient(int number, int divisor) {
        for (int result = 0; result < state.prime; result++) {
            if (result * divisor % state.prime == number) {
                return result;
            }
        }
        throw new AssertionError();
    }

    private Hinge at(int function, int x) {
        List<Integer> key = Arrays.asList(function, x);
        if (!known.containsKey(key)) {
            known.put(key, reckon(state.functions.get(function), new Hinge(x, 1 % state.prime)));
        }
        return known.get(key);
    }

    private Hinge times(Hinge u, Hinge v) {
        return hinge(u.value * v.value, u.slope * v.value + u.value * v.slope);
    }

    private Hinge reckon(Node node, Hinge x) {
        List<Hinge> parts = new ArrayList<>();
        for (Node part : node.parts) {
            Hinge hinge = reckon(part, x);
            if (hinge == null) {
                return null;
            }
            parts.add(hinge);
        }
        Hinge u = parts.isEmpty() ? null : parts.get(0);
        Hinge v = parts.size() < 2 ? null : parts.get(1);
        char kind = node.name.charAt(0);
        if (kind == 'x') {
            return x;
        }
        if (kind == '+') {
            return hinge(u.value + v.value, u.slope + v.slope);
        }
        if (kind == '-') {
            return v == null ? hinge(-u.value, -u.slope) : hinge(u.value - v.value, u.slope - v.slope);
        }
        if (kind == '*') {
            return times(u, v);
        }
        if (kind == '/') {
            if (v.value == 0) {
                return null;
            }
            // The quotient q is what gives u with v: q v = u, so q' v = u' - q v'.
            int value = quotient(u.value, v.value);
            return hinge(value, quotient(Math.floorMod(u.slope - value * v.slope, state.prime), v.value));
        }
        if (kind == '^') {
            Hinge power = hinge(1, 0);
            for (int left = node.name.charAt(1) - '0'; left > 0; left--) {
                power = times(power, u);
            }
            return power;
        }
        int used = "fghk".indexOf(kind);
        if (used >= 0) {
            Hinge inner = at(used, u.value);
            return inner == null ? null : hinge(inner.value, inner.slope * u.slope);
        }
        return hinge(Integer.parseInt(node.name), 0);
    }

    int valueAt(int function, int x) {
        function(function);
        number(x);
        Hinge hinge = at(function, x);
        return hinge == null ? -1 : hinge.value;
    }

    int slopeAt(int function, int x) {
        function(function);
        number(x);
        Hinge hinge = at(function, x);
        return hinge == null ? -1 : hinge.slope;
    }

    int chain(int outer, int inner, int x) {
        function(outer, inner);
        number(x);
        Hinge middle = at(inner, x);
        Hinge end = middle == null ? null : reckon(state.functions.get(outer), middle);
        return end == null ? -1 : end.slope;
    }

    int bansOf(int function) {
        function(function);
        int count = 0;
        for (int x = 0; x < state.prime; x++) {
            count += at(function, x) == null ? 1 : 0;
        }
        return count;
    }

    int flatsOf(int function) {
        function(function);
        int count = 0;
        for (int x = 0; x < state.prime; x++) {
            count += slopeAt(function, x) == 0 ? 1 : 0;
        }
        return count;
    }

    int firstFlat(int function) {
        function(function);
        int first = -1;
        for (int x = state.prime - 1; x >= 0; x--) {
            first = slopeAt(function, x) == 0 ? x : first;
        }
        return first;
    }

    int rootsOf(int function) {
        function(function);
        int count = 0;
        for (int x = 0; x < state.prime; x++) {
            count += valueAt(function, x) == 0 ? 1 : 0;
        }
        return count;
    }

    boolean isSame(int function, int other) {
        function(function, other);
        boolean same = true;
        for (int x = 0; x < state.prime; x++) {
            same &= valueAt(function, x) == valueAt(other, x);
        }
        return same;
    }

    int step(int function, int x) {
        int value = valueAt(function, x);
        int slope = slopeAt(function, x);
        return value == -1 || slope == 0 ? -1 : Math.floorMod(x - quotient(value, slope), state.prime);
    }

    int stepsToRoot(int function, int x) {
        valueAt(function, x);
        Set<Integer> met = new HashSet<>();
        for (int place = x; place != -1 && met.add(place); place = step(function, place)) {
            if (valueAt(function, place) == 0) {
                return met.size() - 1;
            }
        }
        return -1;
    }
}
