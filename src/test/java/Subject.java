/**
 * The program under test, with its calls counted: the document promises nothing about an object after its 512th
 * call, so no test may ask for more.
 */
final class Subject {
    static final int MOST_CALLS = 512;

    private final LossyChannels object = new LossyChannels();
    private int calls = 0;

    int calls() {
        return calls;
    }

    private LossyChannels next() {
        calls++;
        if (calls > MOST_CALLS) {
            throw new AssertionError("a test calls an object more than 512 times");
        }
        return object;
    }

    int addTransition(int oldState, int newState, int action, int channel, int letter) {
        return next().addTransition(oldState, newState, action, channel, letter);
    }

    int removeTransition(int transition) {
        return next().removeTransition(transition);
    }

    int transition(int transition, int what) {
        return next().transition(transition, what);
    }

    int transitionCount() {
        return next().transitionCount();
    }

    int setState(int state) {
        return next().setState(state);
    }

    int put(int channel, int letter) {
        return next().put(channel, letter);
    }

    int clear(int channel) {
        return next().clear(channel);
    }

    int state() {
        return next().state();
    }

    int length(int channel) {
        return next().length(channel);
    }

    int letter(int channel, int index) {
        return next().letter(channel, index);
    }

    int enabled(boolean withLosses) {
        return next().enabled(withLosses);
    }

    int fire(int transition) {
        return next().fire(transition);
    }

    int lose(int channel, int index) {
        return next().lose(channel, index);
    }

    int undo() {
        return next().undo();
    }

    int increase() {
        return next().increase();
    }

    boolean isBelow(int channel) {
        return next().isBelow(channel);
    }

    int embeddings(int channel) {
        return next().embeddings(channel);
    }

    int common() {
        return next().common();
    }

    int subwords(int channel) {
        return next().subwords(channel);
    }

    int addGoal() {
        return next().addGoal();
    }

    int clearGoals() {
        return next().clearGoals();
    }

    int analyze() {
        return next().analyze();
    }

    int lastRound() {
        return next().lastRound();
    }

    int basisSize(int round) {
        return next().basisSize(round);
    }

    int basis(int round, int index, int what) {
        return next().basis(round, index, what);
    }

    int basisLetter(int index, int channel, int place) {
        return next().basisLetter(index, channel, place);
    }

    int coveringStates() {
        return next().coveringStates();
    }

    int least(int state) {
        return next().least(state);
    }

    int distance() {
        return next().distance();
    }

    int covering(int index) {
        return next().covering(index);
    }

    int lost(int index) {
        return next().lost(index);
    }

    int statesAfter(int firings) {
        return next().statesAfter(firings);
    }

    boolean isLast(int transition, int firings) {
        return next().isLast(transition, firings);
    }

    /** Answers something, so that it can stand where an answer is compared. */
    String append(char c) {
        next().append(c);
        return "append";
    }

    int read() {
        return next().read();
    }

    int faultPosition() {
        return next().faultPosition();
    }

    /** Answers something, so that it can stand where an answer is compared. */
    String save() {
        next().save();
        return "save";
    }

    /** Answers something, so that it can stand where an answer is compared. */
    String restore() {
        next().restore();
        return "restore";
    }
}
