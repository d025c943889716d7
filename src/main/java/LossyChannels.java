import java.util.NoSuchElementException;

/**
 * An analyzer for lossy channel machines: finite machines with two unbounded queues that can lose letters.
 */
public final class LossyChannels {
    private static final int STATES = 6;
    private static final int CHANNELS = 2;
    private static final int LETTERS = 3;
    private static final int ACTIONS = 3;
    private static final int NOTHING = 0;
    private static final int SEND = 1;
    private static final int RECEIVE = 2;
    private static final int PARTS = 5;
    private static final int BASIS_PARTS = 3;
    private static final int MOST_TRANSITIONS = 10;
    private static final int MOST_LETTERS = 10;
    private static final int MOST_STEPS = 20;
    private static final int MOST_GOALS = 3;
    private static final int MOST_FIRINGS = 4;
    private static final int MOST_CHARACTERS = 80;
    private static final int FINAL_ROUND = 12;
    private static final int GREATEST_BASIS = 30;
    private static final int FIRING = 0;
    private static final int LOSS = 1;

    private final Machine machine;
    private final Config present;
    private final Configs goals;
    private final Trail trail;
    private final Counting counting;
    private final Analysis analysis;
    private final Outlook outlook;
    private final TextReader reader;
    private final Snapshot snapshot;

    public LossyChannels() {
        machine = new Machine();
        present = new Config();
        goals = new Configs(MOST_GOALS);
        trail = new Trail();
        counting = new Counting();
        analysis = new Analysis();
        outlook = new Outlook();
        reader = new TextReader();
        snapshot = new Snapshot();
    }

    // Transitions

    public int addTransition(int oldState, int newState, int action, int channel, int letter)
            throws IllegalArgumentException, IllegalStateException {
        if (!isState(oldState) || !isState(newState) || action < 0 || action >= ACTIONS) {
            throw new IllegalArgumentException("no such state or action");
        }
        if (action != NOTHING && (!isChannel(channel) || !isLetter(letter))) {
            throw new IllegalArgumentException("no such channel or letter");
        }
        if (machine.count() >= MOST_TRANSITIONS) {
            throw new IllegalStateException("there are 10 transitions");
        }
        machine.add(oldState, newState, action, channel, letter);
        analysis.discard();
        return machine.count() - 1;
    }

    public int removeTransition(int transition) throws IndexOutOfBoundsException {
        requireTransition(transition);
        machine.remove(transition);
        analysis.discard();
        return machine.count();
    }

    public int transition(int transition, int what) throws IndexOutOfBoundsException, IllegalArgumentException {
        requireTransition(transition);
        if (what < 0 || what >= PARTS) {
            throw new IllegalArgumentException("no such part of a transition");
        }
        return machine.part(transition, what);
    }

    public int transitionCount() {
        return machine.count();
    }

    // Present configuration

    public int setState(int state) throws IllegalArgumentException {
        if (!isState(state)) {
            throw new IllegalArgumentException("no such state");
        }
        int previous = present.state;
        present.state = state;
        trail.forget();
        return previous;
    }

    public int put(int channel, int letter)
            throws IndexOutOfBoundsException, IllegalArgumentException, IllegalStateException {
        requireChannel(channel);
        if (!isLetter(letter)) {
            throw new IllegalArgumentException("no such letter");
        }
        int before = Word.size(present.word(channel));
        if (before >= MOST_LETTERS) {
            throw new IllegalStateException("the channel has 10 letters");
        }
        present.setWord(channel, Word.extend(present.word(channel), letter));
        trail.forget();
        return before + 1;
    }

    public int clear(int channel) throws IndexOutOfBoundsException {
        requireChannel(channel);
        int before = Word.size(present.word(channel));
        present.setWord(channel, Word.EMPTY);
        trail.forget();
        return before;
    }

    public int state() {
        return present.state;
    }

    public int length(int channel) throws IndexOutOfBoundsException {
        requireChannel(channel);
        return Word.size(present.word(channel));
    }

    public int letter(int channel, int index) throws IndexOutOfBoundsException, NoSuchElementException {
        requireChannel(channel);
        requireLetter(channel, index);
        return Word.at(present.word(channel), index);
    }

    public int enabled(boolean withLosses) {
        return machine.firable(present, withLosses);
    }

    public int fire(int transition) throws IndexOutOfBoundsException, IllegalStateException {
        requireTransition(transition);
        if (!machine.canFire(transition, present, false)) {
            throw new IllegalStateException("the transition cannot fire");
        }
        if (machine.overfills(transition, present)) {
            throw new IllegalStateException("the channel has 10 letters");
        }
        trail.record(present, FIRING);
        machine.apply(transition, present);
        return present.state;
    }

    public int lose(int channel, int index) throws IndexOutOfBoundsException, NoSuchElementException {
        requireChannel(channel);
        requireLetter(channel, index);
        long word = present.word(channel);
        trail.record(present, LOSS);
        present.setWord(channel, Word.without(word, index));
        return Word.at(word, index);
    }

    public int undo() throws IllegalStateException {
        if (trail.steps() == 0) {
            throw new IllegalStateException("there is no step to undo");
        }
        return trail.takeBack(present);
    }

    public int increase() {
        return trail.firstIncrease(present);
    }

    // Words

    public boolean isBelow(int channel) throws IndexOutOfBoundsException {
        requireChannel(channel);
        return Word.below(present.word(channel), present.word(other(channel)));
    }

    public int embeddings(int channel) throws IndexOutOfBoundsException {
        requireChannel(channel);
        return counting.places(present.word(channel), present.word(other(channel)));
    }

    public int common() {
        return counting.longestCommon(present.first, present.second);
    }

    public int subwords(int channel) throws IndexOutOfBoundsException {
        requireChannel(channel);
        return counting.wordsBelow(present.word(channel));
    }

    // Goals and analysis

    public int addGoal() throws IllegalStateException {
        if (goals.size() >= MOST_GOALS) {
            throw new IllegalStateException("there are 3 goals");
        }
        goals.add(present);
        analysis.discard();
        return goals.size();
    }

    public int clearGoals() {
        int removed = goals.size();
        goals.removeAll();
        analysis.discard();
        return removed;
    }

    public int analyze() throws UnsupportedOperationException {
        requireGoal();
        return analysis.run(machine, goals) ? 1 : 0;
    }

    public int lastRound() throws UnsupportedOperationException, IllegalStateException {
        requireCompleteAnalysis();
        return analysis.last();
    }

    public int basisSize(int round)
            throws UnsupportedOperationException, IllegalStateException, IndexOutOfBoundsException {
        requireCompleteAnalysis();
        requireRound(round);
        return analysis.basisOf(round).size();
    }

    public int basis(int round, int index, int what)
            throws UnsupportedOperationException, IllegalStateException, IndexOutOfBoundsException {
        requireCompleteAnalysis();
        requireRound(round);
        Configs configs = analysis.basisOf(round);
        if (index < 0 || index >= configs.size() || what < 0 || what >= BASIS_PARTS) {
            throw new IndexOutOfBoundsException("no such configuration or part of it");
        }
        return what == 0 ? configs.stateAt(index) : Word.size(configs.wordAt(index, what - 1));
    }

    public int basisLetter(int index, int channel, int place)
            throws UnsupportedOperationException, IllegalStateException, IndexOutOfBoundsException {
        requireCompleteAnalysis();
        Configs configs = analysis.basisOf(analysis.last());
        if (index < 0 || index >= configs.size() || !isChannel(channel)) {
            throw new IndexOutOfBoundsException("no such configuration or channel");
        }
        long word = configs.wordAt(index, channel);
        if (place < 0 || place >= Word.size(word)) {
            throw new IndexOutOfBoundsException("no such place");
        }
        return Word.at(word, place);
    }

    public int coveringStates() throws UnsupportedOperationException, IllegalStateException {
        requireCompleteAnalysis();
        int states = 0;
        for (int state = 0; state < STATES; state++) {
            if (analysis.leastLetters(state) == 0) {
                states |= 1 << state;
            }
        }
        return states;
    }

    public int least(int state)
            throws UnsupportedOperationException, IllegalStateException, IllegalArgumentException {
        requireCompleteAnalysis();
        if (!isState(state)) {
            throw new IllegalArgumentException("no such state");
        }
        return analysis.leastLetters(state);
    }

    public int distance() throws UnsupportedOperationException, IllegalStateException {
        requireCompleteAnalysis();
        return analysis.distanceFrom(present);
    }

    public int covering(int index)
            throws UnsupportedOperationException, IllegalStateException, NoSuchElementException {
        requireCompleteAnalysis();
        requireCoveringFiring(index);
        return analysis.walkedTransition();
    }

    public int lost(int index)
            throws UnsupportedOperationException, IllegalStateException, NoSuchElementException {
        requireCompleteAnalysis();
        requireCoveringFiring(index);
        return analysis.walkedLosses();
    }

    public int statesAfter(int firings) throws IllegalArgumentException {
        if (firings < 0 || firings > MOST_FIRINGS) {
            throw new IllegalArgumentException("the number of firings is not from 0 to 4");
        }
        if (firings == 0) {
            return 1 << present.state;
        }
        return machine.newStates(outlook.lastFirings(machine, present, firings));
    }

    public boolean isLast(int transition, int firings) throws IndexOutOfBoundsException, IllegalArgumentException {
        requireTransition(transition);
        if (firings < 1 || firings > MOST_FIRINGS) {
            throw new IllegalArgumentException("the number of firings is not from 1 to 4");
        }
        return ((outlook.lastFirings(machine, present, firings) >> transition) & 1) == 1;
    }

    // Texts and snapshot

    public void append(char c) throws IllegalStateException {
        if (reader.isFull()) {
            throw new IllegalStateException("the buffer contains 80 characters");
        }
        reader.add(c);
    }

    public int read() throws IllegalArgumentException, IllegalStateException {
        int commands = reader.parse();
        if (reader.fault() >= 0) {
            throw new IllegalArgumentException("the text has a fault");
        }
        if (machine.count() + reader.transitions().count() > MOST_TRANSITIONS
                || goals.size() + reader.goals().size() > MOST_GOALS) {
            throw new IllegalStateException("too many transitions or goals");
        }
        machine.addAll(reader.transitions());
        goals.addAll(reader.goals());
        analysis.discard();
        return commands;
    }

    public int faultPosition() {
        return reader.fault();
    }

    public void save() {
        snapshot.take(machine, present, goals);
    }

    public void restore() throws IllegalStateException {
        if (!snapshot.isTaken()) {
            throw new IllegalStateException("there is no snapshot");
        }
        snapshot.putBack(machine, present, goals);
        trail.forget();
        analysis.discard();
    }

    // Tests of arguments and of the state

    private static boolean isState(int state) {
        return state >= 0 && state < STATES;
    }

    private static boolean isChannel(int channel) {
        return channel >= 0 && channel < CHANNELS;
    }

    private static boolean isLetter(int letter) {
        return letter >= 0 && letter < LETTERS;
    }

    private static int other(int channel) {
        return 1 - channel;
    }

    private static void requireChannel(int channel) {
        if (!isChannel(channel)) {
            throw new IndexOutOfBoundsException("no such channel");
        }
    }

    private void requireTransition(int transition) {
        if (!machine.has(transition)) {
            throw new IndexOutOfBoundsException("no such transition");
        }
    }

    private void requireLetter(int channel, int index) {
        if (index < 0 || index >= Word.size(present.word(channel))) {
            throw new NoSuchElementException("no such letter");
        }
    }

    private void requireGoal() {
        if (goals.size() == 0) {
            throw new UnsupportedOperationException("there is no goal");
        }
    }

    private void requireCompleteAnalysis() {
        requireGoal();
        if (!analysis.run(machine, goals)) {
            throw new IllegalStateException("the analysis is given up");
        }
    }

    private void requireRound(int round) {
        if (round < 0 || round > analysis.last()) {
            throw new IndexOutOfBoundsException("no such round");
        }
    }

    private void requireCoveringFiring(int index) {
        if (!analysis.walkTo(machine, present, index)) {
            throw new NoSuchElementException("no such firing");
        }
    }

    /**
     * Words as numbers: a one, then two bits for each letter, the first letter in the highest place. So a longer
     * word is a greater number, and words of the same length are ordered letter by letter, as a basis wants it.
     */
    private static final class Word {
        static final long EMPTY = 1L;
        /** So many letters fit; 23 are needed: those of a channel and one for each round and the one behind. */
        static final int MOST = 31;

        private Word() {
        }

        static int size(long word) {
            int size = 0;
            while (size < MOST && (word >> (2 * size)) > EMPTY) {
                size++;
            }
            return size;
        }

        static int at(long word, int index) {
            return (int) ((word >> (2 * (size(word) - 1 - index))) & 3L);
        }

        static long extend(long word, int letter) {
            return (word << 2) | letter;
        }

        static long prepend(int letter, long word) {
            int bits = 2 * size(word);
            return word - (1L << bits) + ((4L | letter) << bits);
        }

        static boolean endsWith(long word, int letter) {
            return word > EMPTY && (word & 3L) == letter;
        }

        static long withoutLast(long word) {
            return word > EMPTY ? word >> 2 : EMPTY;
        }

        static long without(long word, int index) {
            int bits = 2 * (size(word) - 1 - index);
            return ((word >> (bits + 2)) << bits) | (word & ((1L << bits) - 1L));
        }

        /** The letters behind an index. */
        static long behind(long word, int index) {
            int bits = 2 * (size(word) - 1 - index);
            return (1L << bits) | (word & ((1L << bits) - 1L));
        }

        static int indexOf(long word, int letter) {
            int size = size(word);
            for (int i = 0; i < size; i++) {
                if (((word >> (2 * (size - 1 - i))) & 3L) == letter) {
                    return i;
                }
            }
            return -1;
        }

        static boolean below(long small, long large) {
            long left = small;
            long rest = large;
            for (int i = 0; i < MOST && left > EMPTY && rest > EMPTY; i++) {
                if ((left & 3L) == (rest & 3L)) {
                    left >>= 2;
                }
                rest >>= 2;
            }
            return left == EMPTY;
        }
    }

    /** A state and two words, to be changed in place, so that runs of calls make no objects. */
    private static final class Config {
        int state;
        long first;
        long second;

        Config() {
            state = 0;
            first = Word.EMPTY;
            second = Word.EMPTY;
        }

        long word(int channel) {
            return channel == 0 ? first : second;
        }

        void setWord(int channel, long word) {
            if (channel == 0) {
                first = word;
            } else {
                second = word;
            }
        }

        void copyFrom(Config source) {
            state = source.state;
            first = source.first;
            second = source.second;
        }
    }

    /** A list of configurations, held in rows that are made once. What is put into a full list is left out. */
    private static final class Configs {
        private final int[] states;
        private final long[] firsts;
        private final long[] seconds;
        private int size;

        Configs(int capacity) {
            int room = Math.max(capacity, 0);
            states = new int[room];
            firsts = new long[room];
            seconds = new long[room];
            size = 0;
        }

        int size() {
            return size;
        }

        int stateAt(int index) {
            return has(index) ? states[index] : 0;
        }

        long wordAt(int index, int channel) {
            if (!has(index)) {
                return Word.EMPTY;
            }
            return channel == 0 ? firsts[index] : seconds[index];
        }

        void load(int index, Config target) {
            if (has(index)) {
                target.state = states[index];
                target.first = firsts[index];
                target.second = seconds[index];
            }
        }

        void add(Config config) {
            if (size < states.length) {
                store(size, config);
                size++;
            }
        }

        void addAll(Configs source) {
            for (int i = 0; i < source.size && size < states.length; i++) {
                states[size] = source.states[i];
                firsts[size] = source.firsts[i];
                seconds[size] = source.seconds[i];
                size++;
            }
        }

        void copyFrom(Configs source) {
            removeAll();
            addAll(source);
        }

        void removeAll() {
            size = 0;
        }

        void removeFirst() {
            for (int i = 1; i < size; i++) {
                move(i, i - 1);
            }
            removeLast();
        }

        void removeLast() {
            if (size > 0) {
                size--;
            }
        }

        boolean contains(Config config) {
            for (int i = 0; i < size; i++) {
                if (order(config, i) == 0) {
                    return true;
                }
            }
            return false;
        }

        /** The least index, less than a limit, of a configuration below the given one, or -1. */
        int firstBelow(Config config, int limit) {
            for (int i = 0; i < limit && i < size; i++) {
                if (states[i] == config.state && Word.below(firsts[i], config.first)
                        && Word.below(seconds[i], config.second)) {
                    return i;
                }
            }
            return -1;
        }

        /** Puts in, at its place in the order, what none is below, and removes what it is below. */
        boolean insertMinimal(Config config) {
            if (firstBelow(config, size) >= 0) {
                return false;
            }
            removeAbove(config);
            if (size >= states.length) {
                return false;
            }
            int place = size;
            size++;
            while (place > 0 && order(config, place - 1) < 0) {
                move(place - 1, place);
                place--;
            }
            store(place, config);
            return true;
        }

        private void removeAbove(Config config) {
            int kept = 0;
            for (int i = 0; i < size; i++) {
                boolean above = states[i] == config.state && Word.below(config.first, firsts[i])
                        && Word.below(config.second, seconds[i]);
                if (!above) {
                    move(i, kept);
                    kept++;
                }
            }
            size = kept;
        }

        private boolean has(int index) {
            return index >= 0 && index < size;
        }

        private int order(Config config, int index) {
            if (index < 0 || index >= size) {
                return -1;
            }
            if (config.state != states[index]) {
                return config.state < states[index] ? -1 : 1;
            }
            if (config.first != firsts[index]) {
                return config.first < firsts[index] ? -1 : 1;
            }
            if (config.second != seconds[index]) {
                return config.second < seconds[index] ? -1 : 1;
            }
            return 0;
        }

        private void store(int index, Config config) {
            if (index >= 0 && index < states.length) {
                states[index] = config.state;
                firsts[index] = config.first;
                seconds[index] = config.second;
            }
        }

        private void move(int from, int to) {
            if (from >= 0 && from < size && to >= 0 && to < size) {
                states[to] = states[from];
                firsts[to] = firsts[from];
                seconds[to] = seconds[from];
            }
        }
    }

    /** The transitions, five parts each in one row. */
    private static final class Machine {
        private static final int OLD_STATE = 0;
        private static final int NEW_STATE = 1;
        private static final int ACTION = 2;
        private static final int CHANNEL = 3;
        private static final int LETTER = 4;

        private final int[] parts;
        private int count;

        Machine() {
            parts = new int[MOST_TRANSITIONS * PARTS];
            count = 0;
        }

        int count() {
            return count;
        }

        boolean has(int transition) {
            return transition >= 0 && transition < count;
        }

        int part(int transition, int what) {
            return has(transition) && what >= 0 && what < PARTS ? parts[PARTS * transition + what] : -1;
        }

        void add(int oldState, int newState, int action, int channel, int letter) {
            if (count >= MOST_TRANSITIONS) {
                return;
            }
            int place = PARTS * count;
            parts[place + OLD_STATE] = oldState;
            parts[place + NEW_STATE] = newState;
            parts[place + ACTION] = action;
            parts[place + CHANNEL] = action == NOTHING ? -1 : channel;
            parts[place + LETTER] = action == NOTHING ? -1 : letter;
            count++;
        }

        void addAll(Machine source) {
            for (int t = 0; t < source.count; t++) {
                add(source.part(t, OLD_STATE), source.part(t, NEW_STATE), source.part(t, ACTION),
                        source.part(t, CHANNEL), source.part(t, LETTER));
            }
        }

        void copyFrom(Machine source) {
            removeAll();
            addAll(source);
        }

        void remove(int transition) {
            if (!has(transition)) {
                return;
            }
            for (int i = PARTS * transition; i < PARTS * (count - 1); i++) {
                parts[i] = parts[i + PARTS];
            }
            count--;
        }

        void removeAll() {
            count = 0;
        }

        boolean canFire(int transition, Config config, boolean withLosses) {
            if (part(transition, OLD_STATE) != config.state) {
                return false;
            }
            if (part(transition, ACTION) != RECEIVE) {
                return true;
            }
            long word = config.word(part(transition, CHANNEL));
            int index = Word.indexOf(word, part(transition, LETTER));
            return withLosses ? index >= 0 : index == 0;
        }

        int firable(Config config, boolean withLosses) {
            int set = 0;
            for (int t = 0; t < count; t++) {
                if (canFire(t, config, withLosses)) {
                    set |= 1 << t;
                }
            }
            return set;
        }

        int newStates(int set) {
            int states = 0;
            for (int t = 0; t < count; t++) {
                if (((set >> t) & 1) == 1) {
                    states |= 1 << part(t, NEW_STATE);
                }
            }
            return states;
        }

        boolean overfills(int transition, Config config) {
            return part(transition, ACTION) == SEND
                    && Word.size(config.word(part(transition, CHANNEL))) >= MOST_LETTERS;
        }

        /**
         * Fires what can fire, after the losses that are necessary, and tells how many these were. What any other
         * losses lead to is below what this leads to.
         */
        int apply(int transition, Config config) {
            int action = part(transition, ACTION);
            int channel = part(transition, CHANNEL);
            int letter = part(transition, LETTER);
            int losses = 0;
            if (action == SEND) {
                config.setWord(channel, Word.extend(config.word(channel), letter));
            } else if (action == RECEIVE) {
                losses = Word.indexOf(config.word(channel), letter);
                config.setWord(channel, Word.behind(config.word(channel), losses));
            }
            config.state = part(transition, NEW_STATE);
            return losses;
        }

        boolean leadsTo(int transition, int state) {
            return part(transition, NEW_STATE) == state;
        }

        /** Makes a configuration with the new state of a transition its predecessor. */
        void applyBackwards(int transition, Config config) {
            int action = part(transition, ACTION);
            int channel = part(transition, CHANNEL);
            int letter = part(transition, LETTER);
            if (action == RECEIVE) {
                config.setWord(channel, Word.prepend(letter, config.word(channel)));
            } else if (action == SEND && Word.endsWith(config.word(channel), letter)) {
                config.setWord(channel, Word.withoutLast(config.word(channel)));
            }
            config.state = part(transition, OLD_STATE);
        }
    }

    /** The configurations before the steps that can be undone, and the kinds of these steps. */
    private static final class Trail {
        private final Configs before;
        private final int[] kinds;
        private final Config work;

        Trail() {
            before = new Configs(MOST_STEPS);
            kinds = new int[MOST_STEPS];
            work = new Config();
        }

        int steps() {
            return before.size();
        }

        void forget() {
            before.removeAll();
        }

        void record(Config config, int kind) {
            if (before.size() >= MOST_STEPS) {
                dropOldest();
            }
            int place = before.size();
            if (place < kinds.length) {
                kinds[place] = kind;
                before.add(config);
            }
        }

        int takeBack(Config target) {
            int latest = before.size() - 1;
            if (latest < 0 || latest >= kinds.length) {
                return FIRING;
            }
            before.load(latest, target);
            before.removeLast();
            return kinds[latest];
        }

        int firstIncrease(Config present) {
            for (int j = 1; j <= before.size(); j++) {
                work.copyFrom(present);
                before.load(j, work);
                int i = before.firstBelow(work, j);
                if (i >= 0) {
                    return 100 * i + j;
                }
            }
            return -1;
        }

        private void dropOldest() {
            before.removeFirst();
            for (int i = 1; i < kinds.length; i++) {
                kinds[i - 1] = kinds[i];
            }
        }
    }

    /** Counts of words below words, with one row for all calls. */
    private static final class Counting {
        private final int[] row;

        Counting() {
            row = new int[MOST_LETTERS + 1];
        }

        /** The row holds, for each beginning of the word, its number of sets of places in what has been seen. */
        int places(long word, long other) {
            int size = Math.min(Word.size(word), MOST_LETTERS);
            empty();
            row[0] = 1;
            for (int i = 0; i < Word.size(other); i++) {
                for (int j = size; j >= 1; j--) {
                    if (Word.at(other, i) == Word.at(word, j - 1)) {
                        row[j] += row[j - 1];
                    }
                }
            }
            return row[size];
        }

        /** The row holds, for each beginning of the second word, the answer with what has been seen of the first. */
        int longestCommon(long first, long second) {
            int size = Math.min(Word.size(second), MOST_LETTERS);
            empty();
            for (int i = 0; i < Word.size(first); i++) {
                int diagonal = 0;
                for (int j = 1; j <= size; j++) {
                    int above = row[j];
                    boolean same = Word.at(first, i) == Word.at(second, j - 1);
                    row[j] = same ? diagonal + 1 : Math.max(above, row[j - 1]);
                    diagonal = above;
                }
            }
            return row[size];
        }

        /** The row holds, for each letter, how many of the words found end with it. */
        int wordsBelow(long word) {
            empty();
            for (int i = 0; i < Word.size(word); i++) {
                int letter = Word.at(word, i);
                if (letter < LETTERS) {
                    row[letter] = 1 + row[0] + row[1] + row[2];
                }
            }
            return 1 + row[0] + row[1] + row[2];
        }

        private void empty() {
            for (int i = 0; i < row.length; i++) {
                row[i] = 0;
            }
        }
    }

    /** The bases of all rounds, kept until transitions or goals change, and what follows from them. */
    private static final class Analysis {
        private final Configs[] bases;
        private final Configs next;
        private final Config work;
        private final Config walker;
        private boolean current;
        private boolean complete;
        private int last;
        private int transition;
        private int losses;

        Analysis() {
            bases = new Configs[FINAL_ROUND + 1];
            for (int k = 0; k < bases.length; k++) {
                bases[k] = new Configs(GREATEST_BASIS);
            }
            next = new Configs(GREATEST_BASIS + GREATEST_BASIS * MOST_TRANSITIONS);
            work = new Config();
            walker = new Config();
            current = false;
            complete = false;
            last = 0;
            transition = 0;
            losses = 0;
        }

        void discard() {
            current = false;
        }

        int last() {
            return last;
        }

        Configs basisOf(int round) {
            return round >= 0 && round < bases.length ? bases[round] : next;
        }

        /** Tells whether the analysis is complete. */
        boolean run(Machine machine, Configs goals) {
            if (current) {
                return complete;
            }
            current = true;
            complete = false;
            collectGoals(goals);
            for (int k = 0; k <= FINAL_ROUND && next.size() <= GREATEST_BASIS && !complete; k++) {
                basisOf(k).copyFrom(next);
                last = k;
                complete = !addPredecessors(machine, k);
            }
            return complete;
        }

        int leastLetters(int state) {
            Configs basis = basisOf(last);
            int least = -1;
            for (int i = 0; i < basis.size(); i++) {
                int letters = Word.size(basis.wordAt(i, 0)) + Word.size(basis.wordAt(i, 1));
                if (basis.stateAt(i) == state && (least < 0 || letters < least)) {
                    least = letters;
                }
            }
            return least;
        }

        int distanceFrom(Config start) {
            for (int k = 0; k <= last; k++) {
                if (isCovering(k, start)) {
                    return k;
                }
            }
            return -1;
        }

        /** Walks the covering run up to a firing; false if there is no such firing. */
        boolean walkTo(Machine machine, Config start, int index) {
            int firings = distanceFrom(start);
            if (index < 0 || index >= firings) {
                return false;
            }
            walker.copyFrom(start);
            for (int i = 0; i <= index; i++) {
                walkOn(machine, firings - 1 - i);
            }
            return true;
        }

        int walkedTransition() {
            return transition;
        }

        int walkedLosses() {
            return losses;
        }

        private void collectGoals(Configs goals) {
            next.removeAll();
            for (int i = 0; i < goals.size(); i++) {
                goals.load(i, work);
                next.insertMinimal(work);
            }
        }

        /** Makes the next basis of that of a round, and tells whether it has changed. */
        private boolean addPredecessors(Machine machine, int round) {
            Configs basis = basisOf(round);
            boolean changed = false;
            for (int i = 0; i < basis.size(); i++) {
                if (isOld(basis, i, round)) {
                    continue;
                }
                for (int t = 0; t < machine.count(); t++) {
                    if (machine.leadsTo(t, basis.stateAt(i))) {
                        basis.load(i, work);
                        machine.applyBackwards(t, work);
                        changed = next.insertMinimal(work) || changed;
                    }
                }
            }
            return changed;
        }

        /** Predecessors of what was in the basis before have been put in already, or something below them. */
        private boolean isOld(Configs basis, int index, int round) {
            basis.load(index, work);
            return round > 0 && basisOf(round - 1).contains(work);
        }

        private boolean isCovering(int round, Config config) {
            Configs basis = basisOf(round);
            return basis.firstBelow(config, basis.size()) >= 0;
        }

        /** Fires the first transition behind which a goal is covered with so many firings. */
        private void walkOn(Machine machine, int firingsLeft) {
            for (int t = 0; t < machine.count(); t++) {
                if (machine.canFire(t, walker, true)) {
                    work.copyFrom(walker);
                    int necessary = machine.apply(t, work);
                    if (isCovering(firingsLeft, work)) {
                        walker.copyFrom(work);
                        transition = t;
                        losses = necessary;
                        return;
                    }
                }
            }
        }
    }

    /** The runs with few firings from a configuration. */
    private static final class Outlook {
        /** All sequences of firings before the last one: 10 * 10 * 10. */
        private static final int MOST_RUNS = 1000;

        private final Config work;
        private Configs reached;
        private Configs following;

        Outlook() {
            work = new Config();
            reached = new Configs(MOST_RUNS);
            following = new Configs(MOST_RUNS);
        }

        /** The transitions that are the last firings of runs with a number of firings. */
        int lastFirings(Machine machine, Config start, int firings) {
            reached.removeAll();
            reached.add(start);
            for (int n = 1; n < firings && n < MOST_FIRINGS; n++) {
                fireAll(machine);
            }
            int set = 0;
            for (int i = 0; i < reached.size(); i++) {
                reached.load(i, work);
                set |= machine.firable(work, true);
            }
            return set;
        }

        private void fireAll(Machine machine) {
            following.removeAll();
            for (int i = 0; i < reached.size(); i++) {
                for (int t = 0; t < machine.count(); t++) {
                    reached.load(i, work);
                    if (machine.canFire(t, work, true)) {
                        machine.apply(t, work);
                        following.add(work);
                    }
                }
            }
            Configs former = reached;
            reached = following;
            following = former;
        }
    }

    /** The text buffer, and the transitions and goals that the commands of a text add. */
    private static final class TextReader {
        /** The command that is no action of a transition. */
        private static final int GOAL = 3;
        private static final int UNKNOWN = -1;
        /** The shortest command has 10 of the 80 characters. */
        private static final int MOST_COMMANDS = 8;

        private final char[] text;
        private final Machine transitions;
        private final Configs goals;
        private final Config work;
        private int length;
        private int position;
        private boolean failed;
        private int fault;

        TextReader() {
            text = new char[MOST_CHARACTERS];
            transitions = new Machine();
            goals = new Configs(MOST_COMMANDS);
            work = new Config();
            length = 0;
            position = 0;
            failed = false;
            fault = -1;
        }

        boolean isFull() {
            return length >= MOST_CHARACTERS;
        }

        void add(char c) {
            if (!isFull()) {
                text[length] = c;
                length++;
            }
        }

        int fault() {
            return fault;
        }

        Machine transitions() {
            return transitions;
        }

        Configs goals() {
            return goals;
        }

        /** Reads the text, empties the buffer, and returns the number of commands. */
        int parse() {
            transitions.removeAll();
            goals.removeAll();
            position = 0;
            failed = false;
            int commands = 0;
            do {
                parseCommand();
                commands++;
            } while (!failed && position < length && commands < MOST_CHARACTERS);
            fault = failed ? position : -1;
            length = 0;
            return commands;
        }

        private void parseCommand() {
            int command = parseName();
            expect('(');
            int oldState = parseSymbol('0', STATES);
            expect(',');
            if (command == GOAL) {
                parseGoal(oldState);
            } else {
                parseTransition(command, oldState);
            }
        }

        private void parseGoal(int state) {
            work.state = state;
            work.first = parseWord();
            expect(',');
            work.second = parseWord();
            expect(')');
            expect(';');
            if (!failed) {
                goals.add(work);
            }
        }

        private void parseTransition(int action, int oldState) {
            int newState = parseSymbol('0', STATES);
            int channel = 0;
            int letter = 0;
            if (action != NOTHING) {
                expect(',');
                channel = parseSymbol('0', CHANNELS);
                expect(',');
                letter = parseSymbol('a', LETTERS);
            }
            expect(')');
            expect(';');
            if (!failed) {
                transitions.add(oldState, newState, action, channel, letter);
            }
        }

        /** The position stays at the first letter of a name that is unknown. */
        private int parseName() {
            int start = position;
            while (position < length && text[position] >= 'a' && text[position] <= 'z') {
                position++;
            }
            int command = nameFrom(start);
            if (command == UNKNOWN) {
                position = start;
                failed = true;
            }
            return command;
        }

        private int nameFrom(int start) {
            if (isRead(start, "move")) {
                return NOTHING;
            }
            if (isRead(start, "send")) {
                return SEND;
            }
            if (isRead(start, "recv")) {
                return RECEIVE;
            }
            return isRead(start, "goal") ? GOAL : UNKNOWN;
        }

        private boolean isRead(int start, String name) {
            if (start < 0 || position > length || position - start != name.length()) {
                return false;
            }
            for (int i = 0; i < name.length(); i++) {
                if (text[start + i] != name.charAt(i)) {
                    return false;
                }
            }
            return true;
        }

        private long parseWord() {
            long word = Word.EMPTY;
            for (int i = 0; i < MOST_LETTERS && isNext('a', LETTERS); i++) {
                word = Word.extend(word, parseSymbol('a', LETTERS));
            }
            return word;
        }

        private void expect(char c) {
            parseSymbol(c, 1);
        }

        /** The number of the next character among those from the lowest one on. */
        private int parseSymbol(char lowest, int count) {
            if (!isNext(lowest, count)) {
                failed = true;
                return 0;
            }
            int symbol = text[position] - lowest;
            position++;
            return symbol;
        }

        /** Nothing comes next behind a fault, so that the position stays there. */
        private boolean isNext(char lowest, int count) {
            return !failed && position >= 0 && position < length
                    && text[position] >= lowest && text[position] < lowest + count;
        }
    }

    /** What save keeps. */
    private static final class Snapshot {
        private final Machine machine;
        private final Config present;
        private final Configs goals;
        private boolean taken;

        Snapshot() {
            machine = new Machine();
            present = new Config();
            goals = new Configs(MOST_GOALS);
            taken = false;
        }

        boolean isTaken() {
            return taken;
        }

        void take(Machine sourceMachine, Config sourcePresent, Configs sourceGoals) {
            machine.copyFrom(sourceMachine);
            present.copyFrom(sourcePresent);
            goals.copyFrom(sourceGoals);
            taken = true;
        }

        void putBack(Machine targetMachine, Config targetPresent, Configs targetGoals) {
            targetMachine.copyFrom(machine);
            targetPresent.copyFrom(present);
            targetGoals.copyFrom(goals);
        }
    }
}
