import java.util.ArrayList;
import java.util.List;

/**
 * All that an object tells of itself, its text, its recorded states and its snapshot with it. To
 * ask for those changes the object, so it is good for nothing else afterwards.
 */
final class Readout {
    private final CountedNumbers numbers;
    private final List<String> answers = new ArrayList<>();

    private Readout(CountedNumbers numbers) {
        this.numbers = numbers;
    }

    static List<String> of(CountedNumbers numbers) {
        Readout readout = new Readout(numbers);
        readout.functions();
        readout.recorded();
        readout.snapshot();
        readout.text();
        return readout.answers;
    }

    private void ask(String what, Checks.Call call) {
        String answer;
        try {
            answer = String.valueOf(call.answer());
        } catch (RuntimeException thrown) {
            answer = thrown.getClass().getSimpleName();
        }
        answers.add(what + " " + answer);
    }

    private void functions() {
        ask("modulus", numbers::modulus);
        for (int function = 0; function < 4; function++) {
            int f = function;
            ask("unlike nodes", () -> numbers.unlikeNodesOf(f));
            ask("depth", () -> numbers.depthOf(f));
            ask("bans", () -> numbers.bansOf(f));
            ask("flats", () -> numbers.flatsOf(f));
            ask("first flat", () -> numbers.firstFlat(f));
            ask("roots", () -> numbers.rootsOf(f));
            ask("same as f", () -> numbers.isSame(f, 0) ? 1 : 0);
            ask("step", () -> numbers.step(f, 1));
            ask("steps to a root", () -> numbers.stepsToRoot(f, 1));
            ask("slope by hinges", () -> numbers.slopeByHinges(f, 1));
            ask("slope by rules", () -> numbers.slopeByRules(f, 1));
            ask("chain by products", () -> numbers.chainByProducts(f, 3, 1));
            ask("chain by feeding", () -> numbers.chainByFeeding(f, 3, 1));
        }
        brief();
    }

    private void brief() {
        int prime = numbers.modulus();
        answers.add("modulus " + prime);
        for (int function = 0; function < 4; function++) {
            int f = function;
            ask("nodes", () -> numbers.nodesOf(f));
            ask("value at 0", () -> numbers.valueAt(f, 0));
            ask("value at 1", () -> numbers.valueAt(f, 1));
            ask("value at the greatest x", () -> numbers.valueAt(f, prime - 1));
        }
    }

    private void recorded() {
        ask("recorded", numbers::recordedStates);
        for (int left = numbers.recordedStates(); left > 0; left--) {
            ask("undo", numbers::undo);
            brief();
        }
        ask("undo at the end", numbers::undo);
    }

    private void snapshot() {
        ask("restore", numbers::restoreSnapshot);
        brief();
    }

    private void text() {
        ask("error", numbers::textError);
        ask("least", numbers::leastToDefine);
        ask("define", () -> numbers.define(3));
        brief();
        // A text that ended too early is told by what it becomes.
        ask("type", () -> numbers.type('7'));
        ask("error then", numbers::textError);
        ask("define then", () -> numbers.define(3));
        brief();
        ask("length", numbers::clearText);
        ask("error of an empty text", numbers::textError);
    }
}
