import java.util.List;

/** Promises 9 to 11 and 28: undo, takeSnapshot, restoreSnapshot, recordedStates. */
public final class UndoTest {
    public static void main(String[] args) {
        undoReturnsStepByStep();
        onlyFourAreKept();
        undoLeavesTextAndSnapshot();
        snapshot();
        whatRecords();
        Checks.end();
    }

    private static void undoReturnsStepByStep() {
        HingeNumbers numbers = new HingeNumbers();
        Checks.badState("undo at first", numbers, numbers::undo);
        Checks.define(numbers, 0, "x+1");
        numbers.setModulus(5);
        numbers.copy(2, 0);
        Checks.same("three are recorded", numbers.recordedStates(), 3);
        Checks.same("h(1)", numbers.valueAt(2, 1), 2);
        Checks.same("undo copy", numbers.undo(), 2);
        Checks.same("h(1) before", numbers.valueAt(2, 1), 1);
        Checks.same("undo setModulus", numbers.undo(), 1);
        Checks.same("modulus before", numbers.modulus(), 97);
        Checks.same("f(96) before", numbers.valueAt(0, 96), 0);
        Checks.same("undo define", numbers.undo(), 0);
        Checks.same("f(1) before", numbers.valueAt(0, 1), 1);
        Checks.same("none is recorded", numbers.recordedStates(), 0);
        Checks.badState("undo at the end", numbers, numbers::undo);
    }

    private static void onlyFourAreKept() {
        HingeNumbers numbers = new HingeNumbers();
        int[] primes = {2, 3, 5, 7, 11, 13, 17};
        for (int index = 0; index < primes.length; index++) {
            numbers.setModulus(primes[index]);
            Checks.same("recorded", numbers.recordedStates(), Math.min(index + 1, 4));
        }
        for (int left = 3; left >= 0; left--) {
            Checks.same("left", numbers.undo(), left);
            Checks.same("modulus", numbers.modulus(), primes[left + 2]);
        }
        Checks.badState("the older ones are gone", numbers, numbers::undo);
        numbers.setModulus(19);
        Checks.same("recorded again", numbers.recordedStates(), 1);
        Checks.same("undone again", numbers.undo(), 0);
        Checks.same("modulus again", numbers.modulus(), 5);
    }

    private static void undoLeavesTextAndSnapshot() {
        HingeNumbers numbers = new HingeNumbers();
        Checks.define(numbers, 0, "x+2");
        numbers.takeSnapshot();
        Checks.define(numbers, 0, "x+34");
        numbers.undo();
        numbers.undo();
        Checks.same("f(1) at first", numbers.valueAt(0, 1), 1);
        Checks.same("the text stays", numbers.clearText(), 4);
        numbers.restoreSnapshot();
        Checks.same("the snapshot stays", numbers.valueAt(0, 1), 3);
    }

    private static void snapshot() {
        HingeNumbers numbers = new HingeNumbers();
        Checks.badState("no snapshot", numbers, numbers::restoreSnapshot);
        Checks.same("taking answers the modulus", numbers.takeSnapshot(), 97);
        Checks.same("taking is not recorded", numbers.recordedStates(), 0);
        List<Long> first = stateOf(numbers);
        Checks.define(numbers, 1, "f(x)*2");
        numbers.setModulus(7);
        Checks.same("restoring answers the modulus", numbers.restoreSnapshot(), 97);
        Checks.same("restoring is recorded", numbers.recordedStates(), 3);
        Checks.same("the state is back", first.equals(stateOf(numbers)), true);
        Checks.same("the text stays", numbers.clearText(), 6);
        Checks.same("restoring again, as the snapshot is kept", numbers.restoreSnapshot(), 97);
        Checks.same("restoring is recorded again", numbers.recordedStates(), 4);
        numbers.undo();
        Checks.same("undo restoring", numbers.undo(), 2);
        Checks.same("modulus before restoring", numbers.modulus(), 7);
        Checks.same("g(3) before restoring", numbers.valueAt(1, 3), 6);
        Checks.same("a new snapshot", numbers.takeSnapshot(), 7);
        numbers.setModulus(11);
        Checks.same("replaces the old one", numbers.restoreSnapshot(), 7);
        Checks.same("with its functions", numbers.valueAt(1, 3), 6);
    }

    private static List<Long> stateOf(HingeNumbers numbers) {
        List<Long> answers = Checks.answersOf(numbers);
        answers.subList(1, 3).clear();
        return answers;
    }

    private static void whatRecords() {
        HingeNumbers numbers = new HingeNumbers();
        Checks.write(numbers, "x*x");
        numbers.textError();
        numbers.leastToDefine();
        numbers.takeSnapshot();
        Checks.answersOf(numbers);
        numbers.slopeByRules(0, 0);
        numbers.chainByProducts(0, 1, 2);
        numbers.chainByFeeding(0, 1, 2);
        numbers.bansOf(0);
        numbers.flatsOf(0);
        numbers.firstFlat(0);
        numbers.rootsOf(0);
        numbers.isSame(0, 1);
        numbers.step(0, 1);
        numbers.stepsToRoot(0, 1);
        Checks.same("none of these is an action", numbers.recordedStates(), 0);
        numbers.define(0);
        Checks.same("define is an action", numbers.recordedStates(), 1);
        numbers.copy(1, 0);
        Checks.same("copy is an action", numbers.recordedStates(), 2);
        numbers.setModulus(3);
        Checks.same("setModulus is an action", numbers.recordedStates(), 3);
        numbers.restoreSnapshot();
        Checks.same("restoreSnapshot is an action", numbers.recordedStates(), 4);
        numbers.undo();
        Checks.same("undo is none", numbers.recordedStates(), 3);
    }
}
