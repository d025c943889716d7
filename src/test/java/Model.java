import java.util.ArrayList;
import java.util.Comparator;
import java.util.HashSet;
import java.util.List;
import java.util.NoSuchElementException;
import java.util.Set;
import java.util.TreeSet;
import java.util.regex.Matcher;
import java.util.regex.Pattern;

/** The document's words, as literally as they can be put, with texts for words and sets for bases. */
final class Model {
    record Config(int state, String first, String second) {
        String word(int channel) {
            return channel == 0 ? first : second;
        }

        Config with(int newState, int channel, String word) {
            return channel == 0 ? new Config(newState, word, second) : new Config(newState, first, word);
        }
    }

    record Transition(int oldState, int newState, int action, int channel, int letter) {
        char sign() {
            return (char) ('a' + letter);
        }
    }

    record Step(Config before, int kind) {
    }

    static final Comparator<Config> ORDER = Comparator.comparingInt(Config::state)
            .thenComparingInt(c -> c.first().length()).thenComparing(Config::first)
            .thenComparingInt(c -> c.second().length()).thenComparing(Config::second);

    private static final Pattern TEXT = Pattern.compile("((send|recv)\\([0-5],[0-5],[01],[abc]\\);"
            + "|move\\([0-5],[0-5]\\);|goal\\([0-5],[abc]{0,10},[abc]{0,10}\\);)+");

    List<Transition> transitions = new ArrayList<>();
    List<Config> goals = new ArrayList<>();
    Config present = new Config(0, "", "");
    List<Step> steps = new ArrayList<>();
    StringBuilder buffer = new StringBuilder();
    int fault = -1;
    private List<Transition> savedTransitions;
    private List<Config> savedGoals;
    private Config savedPresent;
    private List<List<Config>> bases;

    static boolean below(String small, String large) {
        if (small.isEmpty()) {
            return true;
        }
        int place = large.indexOf(small.charAt(0));
        return place >= 0 && below(small.substring(1), large.substring(place + 1));
    }

    static boolean below(Config small, Config large) {
        return small.state() == large.state() && below(small.first(), large.first())
                && below(small.second(), large.second());
    }

    private static void demand(boolean fulfilled, RuntimeException otherwise) {
        if (!fulfilled) {
            throw otherwise;
        }
    }

    private static boolean in(int value, int count) {
        return value >= 0 && value < count;
    }

    private static void channel(int channel) {
        demand(in(channel, 2), new IndexOutOfBoundsException());
    }

    private void numbered(int transition) {
        demand(in(transition, transitions.size()), new IndexOutOfBoundsException());
    }

    int addTransition(int oldState, int newState, int action, int channel, int letter) {
        demand(in(oldState, 6) && in(newState, 6) && in(action, 3), new IllegalArgumentException());
        demand(action == 0 || in(channel, 2) && in(letter, 3), new IllegalArgumentException());
        demand(transitions.size() < 10, new IllegalStateException());
        transitions.add(new Transition(oldState, newState, action, action == 0 ? -1 : channel, action == 0 ? -1 : letter));
        bases = null;
        return transitions.size() - 1;
    }

    int removeTransition(int transition) {
        numbered(transition);
        transitions.remove(transition);
        bases = null;
        return transitions.size();
    }

    int transition(int transition, int what) {
        numbered(transition);
        demand(in(what, 5), new IllegalArgumentException());
        Transition t = transitions.get(transition);
        return new int[] {t.oldState(), t.newState(), t.action(), t.channel(), t.letter()}[what];
    }

    int transitionCount() {
        return transitions.size();
    }

    int setState(int state) {
        demand(in(state, 6), new IllegalArgumentException());
        int before = present.state();
        present = new Config(state, present.first(), present.second());
        steps.clear();
        return before;
    }

    int put(int channel, int letter) {
        channel(channel);
        demand(in(letter, 3), new IllegalArgumentException());
        demand(present.word(channel).length() < 10, new IllegalStateException());
        present = present.with(present.state(), channel, present.word(channel) + (char) ('a' + letter));
        steps.clear();
        return present.word(channel).length();
    }

    int clear(int channel) {
        channel(channel);
        int before = present.word(channel).length();
        present = present.with(present.state(), channel, "");
        steps.clear();
        return before;
    }

    int state() {
        return present.state();
    }

    int length(int channel) {
        channel(channel);
        return present.word(channel).length();
    }

    int letter(int channel, int index) {
        channel(channel);
        demand(in(index, present.word(channel).length()), new NoSuchElementException());
        return present.word(channel).charAt(index) - 'a';
    }

    static boolean canFire(Transition t, Config config, boolean withLosses) {
        if (t.oldState() != config.state()) {
            return false;
        }
        if (t.action() != 2) {
            return true;
        }
        String word = config.word(t.channel());
        return withLosses ? word.indexOf(t.sign()) >= 0 : word.startsWith("" + t.sign());
    }

    int enabled(boolean withLosses) {
        int set = 0;
        for (int t = 0; t < transitions.size(); t++) {
            set |= canFire(transitions.get(t), present, withLosses) ? 1 << t : 0;
        }
        return set;
    }

    static int losses(Transition t, Config config) {
        return t.action() == 2 ? config.word(t.channel()).indexOf(t.sign()) : 0;
    }

    static Config fired(Transition t, Config config) {
        if (t.action() == 0) {
            return new Config(t.newState(), config.first(), config.second());
        }
        String word = config.word(t.channel());
        return config.with(t.newState(), t.channel(),
                t.action() == 1 ? word + t.sign() : word.substring(word.indexOf(t.sign()) + 1));
    }

    private void step(Config after, int kind) {
        steps.add(new Step(present, kind));
        if (steps.size() > 20) {
            steps.remove(0);
        }
        present = after;
    }

    int fire(int transition) {
        numbered(transition);
        Transition t = transitions.get(transition);
        demand(canFire(t, present, false), new IllegalStateException());
        Config after = fired(t, present);
        demand(after.first().length() <= 10 && after.second().length() <= 10, new IllegalStateException());
        step(after, 0);
        return present.state();
    }

    int lose(int channel, int index) {
        int letter = letter(channel, index);
        String word = present.word(channel);
        step(present.with(present.state(), channel, word.substring(0, index) + word.substring(index + 1)), 1);
        return letter;
    }

    int undo() {
        demand(!steps.isEmpty(), new IllegalStateException());
        Step last = steps.remove(steps.size() - 1);
        present = last.before();
        return last.kind();
    }

    int increase() {
        List<Config> trail = new ArrayList<>();
        for (Step step : steps) {
            trail.add(step.before());
        }
        trail.add(present);
        for (int j = 0; j < trail.size(); j++) {
            for (int i = 0; i < j; i++) {
                if (below(trail.get(i), trail.get(j))) {
                    return 100 * i + j;
                }
            }
        }
        return -1;
    }

    boolean isBelow(int channel) {
        channel(channel);
        return below(present.word(channel), present.word(1 - channel));
    }

    /** The words at all sets of places of a word. */
    static List<String> atPlaces(String word) {
        List<String> words = new ArrayList<>();
        for (int set = 0; set < 1 << word.length(); set++) {
            StringBuilder part = new StringBuilder();
            for (int i = 0; i < word.length(); i++) {
                if ((set >> i & 1) == 1) {
                    part.append(word.charAt(i));
                }
            }
            words.add(part.toString());
        }
        return words;
    }

    int embeddings(int channel) {
        channel(channel);
        int count = 0;
        for (String part : atPlaces(present.word(1 - channel))) {
            count += part.equals(present.word(channel)) ? 1 : 0;
        }
        return count;
    }

    int common() {
        int longest = 0;
        for (String part : atPlaces(present.first())) {
            if (below(part, present.second())) {
                longest = Math.max(longest, part.length());
            }
        }
        return longest;
    }

    int subwords(int channel) {
        channel(channel);
        return new HashSet<>(atPlaces(present.word(channel))).size();
    }

    int addGoal() {
        demand(goals.size() < 3, new IllegalStateException());
        goals.add(present);
        bases = null;
        return goals.size();
    }

    int clearGoals() {
        int before = goals.size();
        goals.clear();
        bases = null;
        return before;
    }

    private static List<Config> minimal(Set<Config> all) {
        List<Config> minimal = new ArrayList<>();
        for (Config config : all) {
            boolean least = true;
            for (Config other : all) {
                least &= other.equals(config) || !below(other, config);
            }
            if (least) {
                minimal.add(config);
            }
        }
        return minimal;
    }

    static Config predecessor(Transition t, Config config) {
        if (t.action() == 0) {
            return new Config(t.oldState(), config.first(), config.second());
        }
        String word = config.word(t.channel());
        if (t.action() == 2) {
            return config.with(t.oldState(), t.channel(), t.sign() + word);
        }
        boolean sent = word.endsWith("" + t.sign());
        return config.with(t.oldState(), t.channel(), sent ? word.substring(0, word.length() - 1) : word);
    }

    /** The bases up to the last round, or none if the analysis is given up. */
    private List<List<Config>> bases() {
        demand(!goals.isEmpty(), new UnsupportedOperationException());
        if (bases != null) {
            return bases;
        }
        bases = new ArrayList<>();
        Set<Config> start = new TreeSet<>(ORDER);
        start.addAll(goals);
        List<Config> basis = minimal(start);
        for (int k = 0; k <= 12; k++) {
            if (basis.size() > 30) {
                break;
            }
            bases.add(basis);
            Set<Config> all = new TreeSet<>(ORDER);
            all.addAll(basis);
            for (Transition t : transitions) {
                for (Config config : basis) {
                    if (config.state() == t.newState()) {
                        all.add(predecessor(t, config));
                    }
                }
            }
            List<Config> next = minimal(all);
            if (next.equals(basis)) {
                return bases;
            }
            basis = next;
        }
        bases.clear();
        return bases;
    }

    private List<List<Config>> complete() {
        List<List<Config>> all = bases();
        demand(!all.isEmpty(), new IllegalStateException());
        return all;
    }

    private List<Config> lastBasis() {
        List<List<Config>> all = complete();
        return all.get(all.size() - 1);
    }

    int analyze() {
        return bases().isEmpty() ? 0 : 1;
    }

    int lastRound() {
        return complete().size() - 1;
    }

    int basisSize(int round) {
        List<List<Config>> all = complete();
        demand(in(round, all.size()), new IndexOutOfBoundsException());
        return all.get(round).size();
    }

    int basis(int round, int index, int what) {
        demand(in(index, basisSize(round)) && in(what, 3), new IndexOutOfBoundsException());
        Config config = complete().get(round).get(index);
        return new int[] {config.state(), config.first().length(), config.second().length()}[what];
    }

    int basisLetter(int index, int channel, int place) {
        List<Config> last = lastBasis();
        demand(in(index, last.size()) && in(channel, 2), new IndexOutOfBoundsException());
        String word = last.get(index).word(channel);
        demand(in(place, word.length()), new IndexOutOfBoundsException());
        return word.charAt(place) - 'a';
    }

    int coveringStates() {
        int set = 0;
        for (Config config : lastBasis()) {
            set |= config.first().isEmpty() && config.second().isEmpty() ? 1 << config.state() : 0;
        }
        return set;
    }

    int least(int state) {
        List<Config> last = lastBasis();
        demand(in(state, 6), new IllegalArgumentException());
        int least = Integer.MAX_VALUE;
        for (Config config : last) {
            if (config.state() == state) {
                least = Math.min(least, config.first().length() + config.second().length());
            }
        }
        return least == Integer.MAX_VALUE ? -1 : least;
    }

    private int distance(Config from) {
        List<List<Config>> all = complete();
        for (int k = 0; k < all.size(); k++) {
            for (Config config : all.get(k)) {
                if (below(config, from)) {
                    return k;
                }
            }
        }
        return -1;
    }

    int distance() {
        return distance(present);
    }

    /** The transition and the losses of each firing. */
    private int[] coveringFiring(int index) {
        int firings = distance(present);
        demand(index >= 0 && index < firings, new NoSuchElementException());
        Config here = present;
        for (int i = 0;; i++) {
            int first = 0;
            while (!canFire(transitions.get(first), here, true)
                    || distance(fired(transitions.get(first), here)) != firings - 1 - i) {
                first++;
            }
            if (i == index) {
                return new int[] {first, losses(transitions.get(first), here)};
            }
            here = fired(transitions.get(first), here);
        }
    }

    int covering(int index) {
        return coveringFiring(index)[0];
    }

    int lost(int index) {
        return coveringFiring(index)[1];
    }

    private Set<Config> after(int firings) {
        Set<Config> reached = new HashSet<>(Set.of(present));
        for (int n = 0; n < firings; n++) {
            Set<Config> next = new HashSet<>();
            for (Config config : reached) {
                for (Transition t : transitions) {
                    if (canFire(t, config, true)) {
                        next.add(fired(t, config));
                    }
                }
            }
            reached = next;
        }
        return reached;
    }

    int statesAfter(int firings) {
        demand(in(firings, 5), new IllegalArgumentException());
        int set = 0;
        for (Config config : after(firings)) {
            set |= 1 << config.state();
        }
        return set;
    }

    boolean isLast(int transition, int firings) {
        numbered(transition);
        demand(in(firings - 1, 4), new IllegalArgumentException());
        for (Config config : after(firings - 1)) {
            if (canFire(transitions.get(transition), config, true)) {
                return true;
            }
        }
        return false;
    }

    Object append(char c) {
        demand(buffer.length() < 80, new IllegalStateException());
        buffer.append(c);
        return "append";
    }

    private static boolean canContinue(String beginning) {
        Matcher matcher = TEXT.matcher(beginning);
        return matcher.matches() || matcher.hitEnd();
    }

    static int faultOf(String text) {
        if (TEXT.matcher(text).matches()) {
            return -1;
        }
        int place = 0;
        while (place < text.length() && canContinue(text.substring(0, place + 1))) {
            place++;
        }
        int start = text.substring(0, place).lastIndexOf(';') + 1;
        int end = start;
        while (end < text.length() && text.charAt(end) >= 'a' && text.charAt(end) <= 'z') {
            end++;
        }
        return List.of("send", "recv", "move", "goal").contains(text.substring(start, end)) ? place : start;
    }

    int read() {
        String text = buffer.toString();
        buffer.setLength(0);
        fault = faultOf(text);
        demand(fault < 0, new IllegalArgumentException());
        List<Transition> newTransitions = new ArrayList<>();
        List<Config> newGoals = new ArrayList<>();
        String[] commands = text.split(";");
        for (String command : commands) {
            String[] parts = command.substring(5, command.length() - 1).split(",", -1);
            int state = Integer.parseInt(parts[0]);
            if (command.startsWith("goal")) {
                newGoals.add(new Config(state, parts[1], parts[2]));
            } else if (command.startsWith("move")) {
                newTransitions.add(new Transition(state, Integer.parseInt(parts[1]), 0, -1, -1));
            } else {
                newTransitions.add(new Transition(state, Integer.parseInt(parts[1]), command.startsWith("send") ? 1 : 2,
                        Integer.parseInt(parts[2]), parts[3].charAt(0) - 'a'));
            }
        }
        demand(transitions.size() + newTransitions.size() <= 10 && goals.size() + newGoals.size() <= 3,
                new IllegalStateException());
        transitions.addAll(newTransitions);
        goals.addAll(newGoals);
        bases = null;
        return commands.length;
    }

    int faultPosition() {
        return fault;
    }

    Object save() {
        savedTransitions = new ArrayList<>(transitions);
        savedGoals = new ArrayList<>(goals);
        savedPresent = present;
        return "save";
    }

    Object restore() {
        demand(savedPresent != null, new IllegalStateException());
        transitions = new ArrayList<>(savedTransitions);
        goals = new ArrayList<>(savedGoals);
        present = savedPresent;
        steps.clear();
        bases = null;
        return "restore";
    }
}
