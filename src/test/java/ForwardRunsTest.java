import java.util.ArrayList;
import java.util.HashSet;
import java.util.List;
import java.util.Set;

/**
 * Runs made forwards, of any number of firings and from words of any length, without bases: what the analysis tells
 * must be what these runs show. LiteralRunsTest shows for few firings that the necessary losses alone tell as much.
 */
public final class ForwardRunsTest {
    private static final int MACHINES = 12000;
    private static final int STARTS = 6;
    /** Where runs lead to more configurations than this, their number of firings is not asked for. */
    private static final int MOST_REACHED = 150;
    private static final int UNKNOWN = -2;

    private static final Set<Integer> DISTANCES = new HashSet<>();

    private ForwardRunsTest() {
    }

    public static void main(String[] args) {
        for (int i = 0; i < MACHINES; i++) {
            Draw draw = new Draw(i * 32452843L + 11);
            int states = 2 + draw.below(5);
            int letters = 1 + draw.below(3);
            String commands = draw.machine(states, letters);
            Check.about("machine " + i + ", " + commands + ": ");
            Machine machine = new Machine(commands);
            if (machine.last() >= 0) {
                compare(machine, draw, states, letters);
            }
        }
        Check.about("");
        for (int distance = -1; distance <= 11; distance++) {
            Check.due("distance " + distance + " has been seen", DISTANCES.contains(distance), true);
        }
        Check.finish("ForwardRunsTest");
    }

    private static void compare(Machine machine, Draw draw, int states, int letters) {
        coveringStates(machine);
        bases(machine);
        for (int i = 0; i < STARTS; i++) {
            // Few letters make runs long, many make the losses many.
            int most = 1 + draw.below(11);
            coveringRun(machine, new Model.Config(draw.below(states), draw.word(draw.below(most), letters),
                    draw.word(draw.below(most), letters)));
        }
    }

    private static void coveringStates(Machine machine) {
        Subject x = Make.machine(machine.commands);
        int set = x.coveringStates();
        for (int state = 0; state < 6; state++) {
            int firings = machine.firings(new Model.Config(state, "", ""));
            if (firings != UNKNOWN) {
                Check.due("coveringStates, state " + state, (set >> state) & 1, firings >= 0 ? 1 : 0);
            }
        }
    }

    /** Each configuration of the last basis has a run that covers a goal, and none below it has. */
    private static void bases(Machine machine) {
        Subject sizes = Make.machine(machine.commands);
        int size = sizes.basisSize(machine.last());
        for (int index = 0; index < size; index++) {
            Model.Config config = machine.ofLastBasis(index);
            int firings = machine.firings(config);
            if (firings != UNKNOWN) {
                Check.due(config + " of the last basis covers a goal", firings >= 0, true);
            }
            for (Model.Config smaller : withOneLoss(config)) {
                int fewer = machine.firings(smaller);
                if (fewer != UNKNOWN) {
                    Check.due(smaller + " below the last basis", fewer, -1);
                }
            }
        }
    }

    private static List<Model.Config> withOneLoss(Model.Config config) {
        List<Model.Config> smaller = new ArrayList<>();
        for (int channel = 0; channel < 2; channel++) {
            String word = config.word(channel);
            for (int i = 0; i < word.length(); i++) {
                smaller.add(config.with(config.state(), channel, word.substring(0, i) + word.substring(i + 1)));
            }
        }
        return smaller;
    }

    private static void coveringRun(Machine machine, Model.Config start) {
        Subject x = Make.machine(machine.commands);
        Make.present(x, start.state(), start.first(), start.second());
        int firings = machine.firings(start);
        if (firings == UNKNOWN) {
            return;
        }
        DISTANCES.add(firings);
        Check.due("distance from " + start, x.distance(), firings);
        Model.Config here = start;
        for (int i = 0; i < firings; i++) {
            int index = i;
            int first = machine.firstTowardsGoal(here, firings - 1 - i);
            if (first == UNKNOWN) {
                return;
            }
            Check.due("covering(" + i + ") from " + start, () -> x.covering(index), first);
            Check.due("lost(" + i + ") from " + start, () -> x.lost(index), machine.losses(first, here));
            here = machine.fired(first, here);
        }
        Check.due("covering behind the last firing", () -> x.covering(Math.max(firings, 0)), Check.ELEMENT);
        Check.due("lost behind the last firing", () -> x.lost(Math.max(firings, 0)), Check.ELEMENT);
    }

    /** The transitions and goals of some commands, and the last round that the program tells, or -1. */
    private static final class Machine {
        private final String commands;
        private final Model model = new Model();
        private final int last;

        Machine(String commands) {
            this.commands = commands;
            for (String command : commands.split(" ")) {
                for (char c : (command + ";").toCharArray()) {
                    model.append(c);
                }
                model.read();
            }
            Subject x = Make.machine(commands);
            last = x.analyze() == 1 ? x.lastRound() : -1;
        }

        int last() {
            return last;
        }

        Model.Config ofLastBasis(int index) {
            Subject x = Make.machine(commands);
            String[] words = {"", ""};
            for (int channel = 0; channel < 2; channel++) {
                int length = x.basis(last, index, 1 + channel);
                for (int place = 0; place < length; place++) {
                    words[channel] += (char) ('a' + x.basisLetter(index, channel, place));
                }
            }
            return new Model.Config(x.basis(last, index, 0), words[0], words[1]);
        }

        /** The least number of firings that covers a goal, -1 if none up to the last round does, or UNKNOWN. */
        int firings(Model.Config start) {
            List<Model.Config> reached = List.of(start);
            for (int n = 0; n <= last && reached.size() <= MOST_REACHED; n++) {
                if (covers(reached)) {
                    return n;
                }
                reached = firedFrom(reached);
            }
            return reached.size() <= MOST_REACHED ? -1 : UNKNOWN;
        }

        int firstTowardsGoal(Model.Config here, int firingsLeft) {
            for (int t = 0; t < model.transitions.size(); t++) {
                if (Model.canFire(model.transitions.get(t), here, true)) {
                    int firings = firings(fired(t, here));
                    if (firings == firingsLeft) {
                        return t;
                    }
                    if (firings == UNKNOWN) {
                        return UNKNOWN;
                    }
                }
            }
            return UNKNOWN;
        }

        int losses(int transition, Model.Config here) {
            return Model.losses(model.transitions.get(transition), here);
        }

        Model.Config fired(int transition, Model.Config here) {
            return Model.fired(model.transitions.get(transition), here);
        }

        private boolean covers(List<Model.Config> reached) {
            for (Model.Config config : reached) {
                for (Model.Config goal : model.goals) {
                    if (Model.below(goal, config)) {
                        return true;
                    }
                }
            }
            return false;
        }

        /** Of what is fired, only that which is below nothing else is needed. */
        private List<Model.Config> firedFrom(List<Model.Config> reached) {
            List<Model.Config> greatest = new ArrayList<>();
            for (Model.Config config : reached) {
                for (Model.Transition t : model.transitions) {
                    if (Model.canFire(t, config, true)) {
                        Model.Config next = Model.fired(t, config);
                        if (greatest.stream().noneMatch(other -> Model.below(next, other))) {
                            greatest.removeIf(other -> Model.below(other, next));
                            greatest.add(next);
                        }
                    }
                }
            }
            return greatest;
        }
    }
}
