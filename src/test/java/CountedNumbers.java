/**
 * The program with its calls counted: nothing is promised after the 512th call on an object, so
 * no test may rest on more.
 */
final class CountedNumbers {
    static final int CALLS = 512;

    private final HingeNumbers numbers = new HingeNumbers();
    private int calls = 0;

    int callsLeft() {
        return CALLS - calls;
    }

    private HingeNumbers counted() {
        if (calls == CALLS) {
            throw new AssertionError("this test makes more than 512 calls on one object");
        }
        calls++;
        return numbers;
    }

    int define(int function) {
        return counted().define(function);
    }

    int copy(int function, int other) {
        return counted().copy(function, other);
    }

    int setModulus(int prime) {
        return counted().setModulus(prime);
    }

    int type(char character) {
        return counted().type(character);
    }

    int clearText() {
        return counted().clearText();
    }

    int textError() {
        return counted().textError();
    }

    int leastToDefine() {
        return counted().leastToDefine();
    }

    int undo() {
        return counted().undo();
    }

    int takeSnapshot() {
        return counted().takeSnapshot();
    }

    int restoreSnapshot() {
        return counted().restoreSnapshot();
    }

    int nodesOf(int function) {
        return counted().nodesOf(function);
    }

    int unlikeNodesOf(int function) {
        return counted().unlikeNodesOf(function);
    }

    int depthOf(int function) {
        return counted().depthOf(function);
    }

    int modulus() {
        return counted().modulus();
    }

    int valueAt(int function, int x) {
        return counted().valueAt(function, x);
    }

    int slopeByHinges(int function, int x) {
        return counted().slopeByHinges(function, x);
    }

    int slopeByRules(int function, int x) {
        return counted().slopeByRules(function, x);
    }

    int chainByProducts(int outer, int inner, int x) {
        return counted().chainByProducts(outer, inner, x);
    }

    int chainByFeeding(int outer, int inner, int x) {
        return counted().chainByFeeding(outer, inner, x);
    }

    int bansOf(int function) {
        return counted().bansOf(function);
    }

    int flatsOf(int function) {
        return counted().flatsOf(function);
    }

    int firstFlat(int function) {
        return counted().firstFlat(function);
    }

    int rootsOf(int function) {
        return counted().rootsOf(function);
    }

    boolean isSame(int function, int other) {
        return counted().isSame(function, other);
    }

    int step(int function, int x) {
        return counted().step(function, x);
    }

    int stepsToRoot(int function, int x) {
        return counted().stepsToRoot(function, x);
    }

    int recordedStates() {
        return counted().recordedStates();
    }
}
