import java.util.ArrayDeque;
import java.util.ArrayList;
import java.util.Deque;
import java.util.List;

/** Promises 9 to 11 and 28: undo, takeSnapshot, restoreSnapshot, recordedStates. */
public final class UndoTest {
    public static void main(String[] args) {
        undoReturnsStepByStep();
        onlyFourAreKept();
        anyOrderOfActionsAndUndos();
        undoBringsTheWholeStateBack();
        undoLeavesTextAndSnapshot();
        takingAnswersAndReplaces();
        snapshotIsKept();
        restoringWhenAllIsFull();
        restoringLeavesTextAndRecordedStates();
        whatRecords();
        Checks.end();
    }

    private static List<Integer> stateOf(CountedNumbers numbers) {
        List<Integer> state = new ArrayList<>();
        int prime = numbers.modulus();
        state.add(prime);
        for (int function = 0; function < 4; function++) {
            state.add(numbers.nodesOf(function));
            state.add(numbers.unlikeNodesOf(function));
            state.add(numbers.depthOf(function));
            state.add(numbers.valueAt(function, 0));
            state.add(numbers.valueAt(function, prime - 1));
            state.add(numbers.slopeByHinges(function, 1));
            state.add(numbers.slopeByRules(function, 1));
            state.add(numbers.bansOf(function));
        }
        return state;
    }

    // Promise 9: "Returns to the state that was recorded last, and discards it from the recorded
    // states.", "Throws IllegalStateException if no state is recorded"
    private static void undoReturnsStepByStep() {
        CountedNumbers numbers = new CountedNumbers();
        Checks.badState("undo at first", numbers::undo);
        Checks.define(numbers, 0, "x+1");
        numbers.setModulus(5);
        numbers.copy(2, 0);
        Checks.same("three are recorded", numbers.recordedStates(), 3);
        Checks.same("h(1)", numbers.valueAt(2, 1), 2);
        Checks.same("undo copy", numbers.undo(), 2);
        Checks.same("h(1) before", numbers.valueAt(2, 1), 1);
        Checks.same("undo setModulus", numbers.undo(), 1);
        Checks.same("modulus before", numbers.modulus(), 97);
        Checks.same("f(96) before", numbers.valueAt(0, 96), 0);
        Checks.same("undo define", numbers.undo(), 0);
        Checks.same("f(1) before", numbers.valueAt(0, 1), 1);
        Checks.same("none is recorded", numbers.recordedStates(), 0);
        Checks.badState("undo at the end", numbers::undo);
        Checks.badState("undo at the end again", numbers::undo);
        Checks.same("still none is recorded", numbers.recordedStates(), 0);
    }

    // "only the latest 4 recorded states are kept"
    private static void onlyFourAreKept() {
        int[] primes = {2, 3, 5, 7, 11, 13, 17, 19, 23, 29, 31};
        for (int actions = 0; actions <= primes.length; actions++) {
            CountedNumbers numbers = new CountedNumbers();
            for (int index = 0; index < actions; index++) {
                numbers.setModulus(primes[index]);
                Checks.same("recorded", numbers.recordedStates(), Math.min(index + 1, 4));
            }
            int kept = Math.min(actions, 4);
            for (int left = kept - 1; left >= 0; left--) {
                int before = actions - (kept - left);
                Checks.same("left", numbers.undo(), left);
                Checks.same("recorded then", numbers.recordedStates(), left);
                Checks.same("modulus", numbers.modulus(), before == 0 ? 97 : primes[before - 1]);
            }
            Checks.badState("the older ones are gone", numbers::undo);
            numbers.setModulus(199);
            Checks.same("recorded again", numbers.recordedStates(), 1);
            Checks.same("undone again", numbers.undo(), 0);
        }
    }

    /** Every order of ten actions and undos, against a row of states that drops the oldest. */
    private static void anyOrderOfActionsAndUndos() {
        for (int order = 0; order < 1 << 10; order++) {
            CountedNumbers numbers = new CountedNumbers();
            Deque<Integer> recorded = new ArrayDeque<>();
            int modulus = 97;
            for (int call = 0; call < 10; call++) {
                if ((order >> call & 1) == 0) {
                    recorded.addLast(modulus);
                    if (recorded.size() > 4) {
                        recorded.removeFirst();
                    }
                    modulus = Checks.PRIMES[call];
                    numbers.setModulus(modulus);
                } else if (recorded.isEmpty()) {
                    Checks.badState("undo of nothing", numbers::undo);
                } else {
                    modulus = recorded.removeLast();
                    Checks.same("left", numbers.undo(), recorded.size());
                }
                Checks.same("modulus", numbers.modulus(), modulus);
                Checks.same("recorded", numbers.recordedStates(), recorded.size());
            }
        }
    }

    // "The state consists of everything except the text, the recorded states and the snapshot."
    private static void undoBringsTheWholeStateBack() {
        CountedNumbers numbers = Checks.told(13, "x+3", "f(x)*x", "1/(g(x)-4)", "h(x)-f(2)");
        List<Integer> state = stateOf(numbers);
        Checks.define(numbers, 0, "x^5");
        List<Integer> second = stateOf(numbers);
        numbers.setModulus(2);
        List<Integer> third = stateOf(numbers);
        numbers.copy(3, 1);
        List<Integer> fourth = stateOf(numbers);
        Checks.define(numbers, 1, "7");
        numbers.undo();
        Checks.same("the state before define g", stateOf(numbers).equals(fourth), true);
        numbers.undo();
        Checks.same("the state before copy", stateOf(numbers).equals(third), true);
        numbers.undo();
        Checks.same("the state before setModulus", stateOf(numbers).equals(second), true);
        numbers.undo();
        Checks.same("the state before define f", stateOf(numbers).equals(state), true);
    }

    private static void undoLeavesTextAndSnapshot() {
        CountedNumbers numbers = new CountedNumbers();
        Checks.define(numbers, 0, "x+2");
        numbers.takeSnapshot();
        Checks.define(numbers, 0, "x+34");
        numbers.undo();
        numbers.undo();
        Checks.same("f(1) at first", numbers.valueAt(0, 1), 1);
        Checks.same("the text stays", numbers.type('5'), 5);
        Checks.same("the text can be defined by", numbers.define(1), 3);
        Checks.same("g(1)", numbers.valueAt(1, 1), 346 % 97);
        numbers.undo();
        numbers.restoreSnapshot();
        Checks.same("the snapshot stays", numbers.valueAt(0, 1), 3);
        Checks.same("g(1) of the snapshot", numbers.valueAt(1, 1), 1);
    }

    // Promise 10: "Takes a snapshot of the state, which replaces the previous snapshot.", "Returns
    // the modulus."
    private static void takingAnswersAndReplaces() {
        CountedNumbers numbers = new CountedNumbers();
        Checks.badState("no snapshot", numbers::restoreSnapshot);
        Checks.same("taking answers the modulus", numbers.takeSnapshot(), 97);
        Checks.same("taking is not recorded", numbers.recordedStates(), 0);
        numbers.setModulus(2);
        Checks.define(numbers, 3, "x+1");
        Checks.same("taking answers the least modulus", numbers.takeSnapshot(), 2);
        Checks.same("taking is not recorded again", numbers.recordedStates(), 2);
        numbers.setModulus(199);
        Checks.define(numbers, 3, "5");
        Checks.same("the new snapshot is restored", numbers.restoreSnapshot(), 2);
        Checks.same("with its functions", numbers.valueAt(3, 1), 0);
        numbers.undo();
        Checks.same("taking after an undo", numbers.takeSnapshot(), 199);
        numbers.undo();
        numbers.undo();
        Checks.same("modulus before", numbers.modulus(), 2);
        Checks.same("undo does not bring the old snapshot back", numbers.restoreSnapshot(), 199);
        Checks.same("with its functions", numbers.valueAt(3, 1), 5);
    }

    // Promise 11: "Returns to the state of the snapshot, which is kept. This is an action."
    private static void snapshotIsKept() {
        CountedNumbers numbers = Checks.told(13, "x+3", "f(x)*x", "1/(g(x)-4)", "h(x)-f(2)");
        numbers.takeSnapshot();
        List<Integer> taken = stateOf(numbers);
        Checks.define(numbers, 1, "f(x)*2");
        numbers.setModulus(7);
        List<Integer> later = stateOf(numbers);
        Checks.same("restoring answers the modulus", numbers.restoreSnapshot(), 13);
        Checks.same("the state is back", stateOf(numbers).equals(taken), true);
        numbers.undo();
        Checks.same("undo restoring", stateOf(numbers).equals(later), true);
        Checks.define(numbers, 0, "1");
        numbers.copy(2, 0);
        Checks.same("restoring again, as the snapshot is kept", numbers.restoreSnapshot(), 13);
        Checks.same("the state is back again", stateOf(numbers).equals(taken), true);
        Checks.same("restoring what is there already", numbers.restoreSnapshot(), 13);
        Checks.same("the state stays", stateOf(numbers).equals(taken), true);
        numbers.undo();
        Checks.same("which was recorded, too", stateOf(numbers).equals(taken), true);
    }

    private static void restoringWhenAllIsFull() {
        CountedNumbers numbers = new CountedNumbers();
        numbers.takeSnapshot();
        Checks.same("restoring a new object's state", numbers.restoreSnapshot(), 97);
        Checks.same("restoring is recorded", numbers.recordedStates(), 1);
        numbers.setModulus(2);
        numbers.setModulus(3);
        numbers.setModulus(5);
        Checks.same("four are recorded", numbers.recordedStates(), 4);
        Checks.same("restoring when four are recorded", numbers.restoreSnapshot(), 97);
        Checks.same("four are kept", numbers.recordedStates(), 4);
        int[] before = {5, 3, 2, 97};
        for (int undone = 0; undone < 4; undone++) {
            Checks.same("left", numbers.undo(), 3 - undone);
            Checks.same("modulus", numbers.modulus(), before[undone]);
        }
        Checks.badState("the oldest is gone", numbers::undo);
    }

    private static void restoringLeavesTextAndRecordedStates() {
        CountedNumbers numbers = new CountedNumbers();
        Checks.define(numbers, 0, "x+2");
        numbers.takeSnapshot();
        Checks.write(numbers, "x*4");
        numbers.setModulus(5);
        Checks.same("restoring", numbers.restoreSnapshot(), 97);
        Checks.same("the recorded states are none of the snapshot", numbers.recordedStates(), 3);
        Checks.same("nor is the text", numbers.type('1'), 4);
        Checks.same("which can be defined by", numbers.define(0), 3);
        Checks.same("f(2)", numbers.valueAt(0, 2), 82);
    }

    // Promise 28, and "Each successful call of a method that is described as an action first
    // records the current state"
    private static void whatRecords() {
        CountedNumbers numbers = new CountedNumbers();
        Checks.write(numbers, "x*x");
        numbers.textError();
        numbers.leastToDefine();
        numbers.takeSnapshot();
        stateOf(numbers);
        numbers.chainByProducts(0, 1, 2);
        numbers.chainByFeeding(0, 1, 2);
        numbers.flatsOf(0);
        numbers.firstFlat(0);
        numbers.rootsOf(0);
        numbers.isSame(0, 1);
        numbers.step(0, 1);
        numbers.stepsToRoot(0, 1);
        Checks.same("none of these is an action", numbers.recordedStates(), 0);
        numbers.define(0);
        Checks.same("define is an action", numbers.recordedStates(), 1);
        numbers.copy(1, 0);
        Checks.same("copy is an action", numbers.recordedStates(), 2);
        numbers.setModulus(3);
        Checks.same("setModulus is an action", numbers.recordedStates(), 3);
        numbers.restoreSnapshot();
        Checks.same("restoreSnapshot is an action", numbers.recordedStates(), 4);
        numbers.undo();
        Checks.same("undo is none", numbers.recordedStates(), 3);
        numbers.clearText();
        numbers.type('x');
        numbers.takeSnapshot();
        Checks.same("nor are type, clearText and takeSnapshot", numbers.recordedStates(), 3);
        Checks.write(numbers, "x+");
        Checks.badState("a refused define", () -> numbers.define(0));
        Checks.badArgument("a refused setModulus", () -> numbers.setModulus(4));
        Checks.outOfBounds("a refused copy", () -> numbers.copy(4, 0));
        Checks.same("a refused action records nothing", numbers.recordedStates(), 3);
    }
}
