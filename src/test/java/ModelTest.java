import java.util.Map;
import java.util.TreeMap;

/** Long mixed runs of calls, each compared with the model, the same ones at every time. */
public final class ModelTest {
    private static final int RUNS = 1500;

    private static long seed;
    private static final Map<String, Integer> ANSWERS = new TreeMap<>();

    public static void main(String[] args) {
        for (int run = 0; run < RUNS; run++) {
            seed = run * 7919L + 1;
            compare(run);
        }
        String[] wanted = {"analyze 0", "analyze 1", "covering 0", "covering 5", "lost 0", "lost 1", "lastRound 12",
            "read 1", "read 6", "undo 0", "undo 1", "distance 3", "increase 1", "increase 102", "embeddings 252"};
        for (String answer : wanted) {
            Check.due(answer + " has been answered often", ANSWERS.getOrDefault(answer, 0) > 10, true);
        }
        Check.finish("ModelTest");
    }

    private static int below(int bound) {
        seed = seed * 6364136223846793005L + 1442695040888963407L;
        return (int) ((seed >>> 33) % bound);
    }

    /** Mostly from 0 to bound - 1, at times just outside or far away. */
    private static int about(int bound) {
        int chance = below(60);
        if (chance == 0) {
            return -1;
        }
        if (chance == 1) {
            return bound;
        }
        if (chance == 2) {
            return below(2) == 0 ? Integer.MIN_VALUE : Integer.MAX_VALUE;
        }
        return below(bound);
    }

    private static void compare(int run) {
        Subject x = new Subject();
        Model m = new Model();
        int states = 1 + below(6);
        int letters = 1 + below(3);
        if (below(4) > 0) {
            machine(run, x, m, states, letters);
            goals(run, x, m, states, letters);
        }
        // Some runs change their machine and goals seldom, so that there is something to analyze.
        boolean steady = below(3) > 0;
        while (x.calls() <= Subject.MOST_CALLS - 3) {
            if (below(steady ? 300 : 30) == 0 && x.calls() <= Subject.MOST_CALLS - 83) {
                text(run, x, m, states, letters);
            } else {
                call(run, x.calls() + 1, x, m, states, letters, steady);
            }
        }
    }

    private static void machine(int run, Subject x, Model m, int states, int letters) {
        int count = below(11);
        for (int i = 0; i < count; i++) {
            int p = below(states);
            int q = below(states);
            int action = below(3);
            int channel = below(2);
            int letter = below(letters);
            same(run, i, "addTransition", () -> x.addTransition(p, q, action, channel, letter),
                    () -> m.addTransition(p, q, action, channel, letter));
        }
    }

    private static void goals(int run, Subject x, Model m, int states, int letters) {
        int count = below(4);
        for (int i = 0; i < count; i++) {
            int state = below(states);
            same(run, i, "setState", () -> x.setState(state), () -> m.setState(state));
            int length = below(3) == 0 ? 0 : below(5);
            for (int n = 0; n < length; n++) {
                int channel = below(2);
                int letter = below(letters);
                same(run, i, "put", () -> x.put(channel, letter), () -> m.put(channel, letter));
            }
            same(run, i, "addGoal", () -> x.addGoal(), () -> m.addGoal());
            if (below(2) == 0) {
                same(run, i, "clear", () -> x.clear(0), () -> m.clear(0));
                same(run, i, "clear", () -> x.clear(1), () -> m.clear(1));
            }
        }
    }

    private static String word(int letters) {
        StringBuilder word = new StringBuilder();
        int length = below(3) == 0 ? 0 : below(12) == 0 ? 8 + below(4) : below(5);
        for (int i = 0; i < length; i++) {
            word.append((char) ('a' + below(letters)));
        }
        return word.toString();
    }

    private static String command(int states, int letters) {
        int p = below(states);
        int q = below(states);
        switch (below(4)) {
            case 0:
                return "move(" + p + "," + q + ");";
            case 1:
                return "goal(" + p + "," + word(letters) + "," + word(letters) + ");";
            default:
                return (below(2) == 0 ? "send(" : "recv(") + p + "," + q + "," + below(2) + ","
                        + (char) ('a' + below(letters)) + ");";
        }
    }

    private static void text(int run, Subject x, Model m, int states, int letters) {
        StringBuilder text = new StringBuilder();
        int commands = below(4) == 0 ? 1 + below(8) : 1 + below(2);
        for (int i = 0; i < commands; i++) {
            text.append(command(states, letters));
        }
        int fault = below(8);
        int place = below(text.length());
        if (fault == 0) {
            text.setLength(place);
        } else if (fault == 1) {
            text.setCharAt(place, "abcdeg016(),; ~\u00e9\uffffA`{/:".charAt(below(22)));
        } else if (fault == 2) {
            text.deleteCharAt(place);
        } else if (fault == 3) {
            text.insert(place, text.charAt(below(text.length())));
        }
        int length = Math.min(text.length(), 81);
        for (int i = 0; i < length; i++) {
            char c = text.charAt(i);
            same(run, i, "append", () -> x.append(c), () -> m.append(c));
        }
        same(run, length, "read of " + text, () -> x.read(), () -> m.read());
        same(run, length, "faultPosition of " + text, () -> x.faultPosition(), () -> m.faultPosition());
    }

    private static void call(int run, int n, Subject x, Model m, int states, int letters, boolean steady) {
        int kind = below(100);
        if (kind < 30) {
            if (steady && below(20) > 0) {
                move(run, n, x, m, states, letters);
            } else {
                change(run, n, x, m, states, letters);
            }
        } else if (kind < 55) {
            stepOrLook(run, n, x, m);
        } else if (kind < 65) {
            words(run, n, x, m);
        } else {
            analysis(run, n, x, m);
        }
    }

    private static void change(int run, int n, Subject x, Model m, int states, int letters) {
        int a = about(states);
        int b = about(states);
        int c = about(3);
        int d = about(2);
        int e = about(letters);
        int t = about(Math.max(1, m.transitionCount()));
        switch (below(12)) {
            case 0:
                same(run, n, "addTransition", () -> x.addTransition(a, b, c, d, e), () -> m.addTransition(a, b, c, d, e));
                break;
            case 1:
                if (below(3) == 0) {
                    same(run, n, "removeTransition", () -> x.removeTransition(t), () -> m.removeTransition(t));
                }
                break;
            case 2:
                same(run, n, "setState", () -> x.setState(a), () -> m.setState(a));
                break;
            case 3:
                if (below(3) == 0) {
                    same(run, n, "clear", () -> x.clear(d), () -> m.clear(d));
                }
                break;
            case 4:
                same(run, n, "addGoal", () -> x.addGoal(), () -> m.addGoal());
                break;
            case 5:
                if (below(2) == 0) {
                    same(run, n, "clearGoals", () -> x.clearGoals(), () -> m.clearGoals());
                }
                break;
            case 6:
                same(run, n, "save", () -> x.save(), () -> m.save());
                break;
            case 7:
                if (below(2) == 0) {
                    same(run, n, "restore", () -> x.restore(), () -> m.restore());
                }
                break;
            default:
                same(run, n, "put", () -> x.put(d, e), () -> m.put(d, e));
                break;
        }
    }

    private static void move(int run, int n, Subject x, Model m, int states, int letters) {
        int state = below(states);
        int channel = below(2);
        int letter = below(letters);
        int kind = below(10);
        if (kind == 0) {
            same(run, n, "clear", () -> x.clear(channel), () -> m.clear(channel));
        } else if (kind < 4) {
            same(run, n, "setState", () -> x.setState(state), () -> m.setState(state));
        } else {
            same(run, n, "put", () -> x.put(channel, letter), () -> m.put(channel, letter));
        }
    }

    private static void stepOrLook(int run, int n, Subject x, Model m) {
        int t = about(Math.max(1, m.transitionCount()));
        int channel = about(2);
        int index = about(1 + Math.max(m.length(0), m.length(1)));
        int what = about(5);
        boolean withLosses = below(2) == 0;
        switch (below(10)) {
            case 0:
                same(run, n, "transition", () -> x.transition(t, what), () -> m.transition(t, what));
                break;
            case 1:
                same(run, n, "letter", () -> x.letter(channel, index), () -> m.letter(channel, index));
                break;
            case 2:
                same(run, n, "enabled", () -> x.enabled(withLosses), () -> m.enabled(withLosses));
                break;
            case 3:
                same(run, n, "lose", () -> x.lose(channel, index), () -> m.lose(channel, index));
                break;
            case 4:
                same(run, n, "undo", () -> x.undo(), () -> m.undo());
                break;
            case 5:
                same(run, n, "increase", () -> x.increase(), () -> m.increase());
                break;
            case 6:
                same(run, n, "length", () -> x.length(channel), () -> m.length(channel));
                same(run, n, "state", () -> x.state(), () -> m.state());
                same(run, n, "transitionCount", () -> x.transitionCount(), () -> m.transitionCount());
                break;
            default:
                same(run, n, "fire", () -> x.fire(t), () -> m.fire(t));
                break;
        }
    }

    private static void words(int run, int n, Subject x, Model m) {
        int channel = about(2);
        switch (below(4)) {
            case 0:
                same(run, n, "isBelow", () -> x.isBelow(channel), () -> m.isBelow(channel));
                break;
            case 1:
                same(run, n, "embeddings", () -> x.embeddings(channel), () -> m.embeddings(channel));
                break;
            case 2:
                same(run, n, "common", () -> x.common(), () -> m.common());
                break;
            default:
                same(run, n, "subwords", () -> x.subwords(channel), () -> m.subwords(channel));
                break;
        }
    }

    private static void analysis(int run, int n, Subject x, Model m) {
        int t = about(Math.max(1, m.transitionCount()));
        int round = about(1 + below(14));
        int index = about(1 + below(31));
        int what = about(3);
        int place = about(1 + below(13));
        int firings = about(below(2) == 0 ? 5 : 6);
        switch (below(12)) {
            case 0:
                same(run, n, "analyze", () -> x.analyze(), () -> m.analyze());
                break;
            case 1:
                same(run, n, "lastRound", () -> x.lastRound(), () -> m.lastRound());
                break;
            case 2:
                same(run, n, "basisSize", () -> x.basisSize(round), () -> m.basisSize(round));
                break;
            case 3:
                same(run, n, "basis", () -> x.basis(round, index, what), () -> m.basis(round, index, what));
                break;
            case 4:
                same(run, n, "basisLetter", () -> x.basisLetter(index, what, place), () -> m.basisLetter(index, what, place));
                break;
            case 5:
                same(run, n, "coveringStates", () -> x.coveringStates(), () -> m.coveringStates());
                break;
            case 6:
                same(run, n, "least", () -> x.least(firings), () -> m.least(firings));
                break;
            case 7:
                same(run, n, "distance", () -> x.distance(), () -> m.distance());
                break;
            case 8:
                same(run, n, "covering", () -> x.covering(place), () -> m.covering(place));
                break;
            case 9:
                same(run, n, "lost", () -> x.lost(place), () -> m.lost(place));
                break;
            case 10:
                same(run, n, "statesAfter", () -> x.statesAfter(firings), () -> m.statesAfter(firings));
                break;
            default:
                same(run, n, "isLast", () -> x.isLast(t, firings), () -> m.isLast(t, firings));
                break;
        }
    }

    private static void same(int run, int n, String what, Check.Call call, Check.Call due) {
        Object want = Check.answer(due);
        Check.due("run " + run + ", call " + n + ": " + what, call, want);
        if (!String.valueOf(want).startsWith("throws")) {
            String method = what.split(" ")[0];
            ANSWERS.merge(method, 1, Integer::sum);
            ANSWERS.merge(method + " " + want, 1, Integer::sum);
        }
    }
}
