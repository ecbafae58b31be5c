import java.util.Random;

/**
 * All promises: runs of 512 calls, drawn from fixed seeds, in which the program and the model
 * must answer alike.
 */
public final class ModelTest {
    private static final int RUNS = 400;

    private final Random random;
    private final CountedNumbers numbers = new CountedNumbers();
    private final Model model = new Model();
    private final StringBuilder story = new StringBuilder();

    private ModelTest(long seed) {
        random = new Random(seed);
    }

    public static void main(String[] args) {
        for (int seed = 1; seed <= RUNS; seed++) {
            new ModelTest(seed).run();
        }
        Checks.end();
    }

    private void run() {
        while (numbers.callsLeft() >= 2) {
            if (random.nextInt(5) == 0) {
                writeText();
            } else {
                anyCall();
            }
        }
    }

    private void writeText() {
        String text = random.nextInt(4) == 0 ? spoiled(sum(4, random.nextInt(5))) : sum(4, random.nextInt(5));
        call("clearText()", numbers::clearText, model::clearText);
        for (int typed = 0; typed < text.length() && typed < 41 && numbers.callsLeft() > 0; typed++) {
            char character = text.charAt(typed);
            call("type " + character, () -> numbers.type(character), () -> model.type(character));
        }
    }

    private String sum(int depth, int functions) {
        StringBuilder text = new StringBuilder(term(depth, functions));
        for (int more = random.nextInt(3); more > 0; more--) {
            text.append(random.nextBoolean() ? '+' : '-').append(term(depth, functions));
        }
        return text.toString();
    }

    private String term(int depth, int functions) {
        StringBuilder text = new StringBuilder(power(depth, functions));
        for (int more = random.nextInt(3); more > 0; more--) {
            text.append(random.nextBoolean() ? '*' : '/').append(power(depth, functions));
        }
        return text.toString();
    }

    private String power(int depth, int functions) {
        String atom = atom(depth, functions);
        return random.nextInt(4) == 0 ? atom + "^" + random.nextInt(10) : atom;
    }

    private String atom(int depth, int functions) {
        int kind = random.nextInt(depth > 0 ? 8 : 4);
        if (kind < 3) {
            return "x";
        }
        if (kind == 3) {
            int[] ends = {3, 10, 100, 1000};
            return String.valueOf(random.nextInt(ends[random.nextInt(4)]));
        }
        if (kind == 4) {
            return "-" + atom(depth - 1, functions);
        }
        String inner = "(" + sum(depth - 3, functions) + ")";
        return functions == 0 || kind == 5 ? inner : "fghk".charAt(random.nextInt(functions)) + inner;
    }

    private String spoiled(String text) {
        String signs = "x0123456789+-*/^()fghky. \u0000\u00e9\u20ac";
        int place = random.nextInt(text.length() + 1);
        int end = Math.min(text.length(), place + random.nextInt(3));
        String put = random.nextInt(3) == 0 ? "" : "" + signs.charAt(random.nextInt(signs.length()));
        return text.substring(0, place) + put + text.substring(end);
    }

    private int function() {
        return random.nextInt(30) == 0 ? random.nextInt(9) - 3 : random.nextInt(4);
    }

    private int number() {
        int prime = model.modulus();
        return random.nextInt(25) == 0 ? random.nextInt(250) - 25 : random.nextInt(Math.min(prime, 250));
    }

    private int prime() {
        int[] primes = {2, 3, 5, 7, 11, 13, 17, 31, 53, 97, 101, 127, 149, 193, 197, 199};
        return random.nextInt(8) == 0 ? random.nextInt(230) - 10 : primes[random.nextInt(primes.length)];
    }

    private void anyCall() {
        int f = function();
        int g = function();
        int x = number();
        switch (random.nextInt(32)) {
            case 0, 1, 2, 3, 4 -> call("define " + f, () -> numbers.define(f), () -> model.define(f));
            case 5, 6 -> call("copy " + f + " " + g, () -> numbers.copy(f, g), () -> model.copy(f, g));
            case 7 -> {
                int prime = prime();
                call("setModulus " + prime, () -> numbers.setModulus(prime), () -> model.setModulus(prime));
            }
            case 8 -> call("textError", numbers::textError, model::textError);
            case 9 -> call("leastToDefine", numbers::leastToDefine, model::leastToDefine);
            case 10, 11 -> call("undo", numbers::undo, model::undo);
            case 12 -> call("takeSnapshot", numbers::takeSnapshot, model::takeSnapshot);
            case 13 -> call("restoreSnapshot", numbers::restoreSnapshot, model::restoreSnapshot);
            case 14 -> call("nodesOf " + f, () -> numbers.nodesOf(f), () -> model.nodesOf(f));
            case 15 -> call("unlikeNodesOf " + f, () -> numbers.unlikeNodesOf(f), () -> model.unlikeNodesOf(f));
            case 16 -> call("depthOf " + f, () -> numbers.depthOf(f), () -> model.depthOf(f));
            case 17 -> call("modulus", numbers::modulus, model::modulus);
            case 18 -> call("valueAt " + f + " " + x, () -> numbers.valueAt(f, x), () -> model.valueAt(f, x));
            case 19, 20 -> call("slopeByHinges " + f + " " + x,
                    () -> numbers.slopeByHinges(f, x), () -> model.slopeAt(f, x));
            case 21, 22 -> call("slopeByRules " + f + " " + x,
                    () -> numbers.slopeByRules(f, x), () -> model.slopeAt(f, x));
            case 23 -> call("chainByProducts " + f + " " + g + " " + x,
                    () -> numbers.chainByProducts(f, g, x), () -> model.chain(f, g, x));
            case 24 -> call("chainByFeeding " + f + " " + g + " " + x,
                    () -> numbers.chainByFeeding(f, g, x), () -> model.chain(f, g, x));
            case 25 -> call("bansOf " + f, () -> numbers.bansOf(f), () -> model.bansOf(f));
            case 26 -> call("flatsOf " + f, () -> numbers.flatsOf(f), () -> model.flatsOf(f));
            case 27 -> call("firstFlat " + f, () -> numbers.firstFlat(f), () -> model.firstFlat(f));
            case 28 -> call("rootsOf " + f, () -> numbers.rootsOf(f), () -> model.rootsOf(f));
            case 29 -> call("isSame " + f + " " + g,
                    () -> numbers.isSame(f, g) ? 1 : 0, () -> model.isSame(f, g) ? 1 : 0);
            case 30 -> call("step " + f + " " + x, () -> numbers.step(f, x), () -> model.step(f, x));
            default -> call("stepsToRoot " + f + " " + x,
                    () -> numbers.stepsToRoot(f, x), () -> model.stepsToRoot(f, x));
        }
        call("recordedStates", numbers::recordedStates, model::recordedStates);
    }

    private void call(String what, Checks.Call program, Checks.Call due) {
        story.append(what).append("; ");
        String got = outcome(program);
        String wanted = outcome(due);
        Checks.same("same outcome", got.equals(wanted), true);
        if (!got.equals(wanted)) {
            System.out.println(story + " answered " + got + ", due is " + wanted);
            Checks.end();
        }
    }

    private static String outcome(Checks.Call call) {
        try {
            return String.valueOf(call.answer());
        } catch (RuntimeException thrown) {
            return thrown.getClass().getName();
        }
    }
}
