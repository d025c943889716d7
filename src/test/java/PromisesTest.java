/** A section for each promise: ordinary calls, the edges that the document names, and wrong arguments. */
public final class PromisesTest {
    private static final String ARGUMENT = "IllegalArgumentException";
    private static final String STATE = "IllegalStateException";
    private static final String INDEX = "IndexOutOfBoundsException";
    private static final String ELEMENT = "NoSuchElementException";
    private static final String UNSUPPORTED = "UnsupportedOperationException";
    private static final int[] FAR = {Integer.MIN_VALUE, -1, Integer.MAX_VALUE};

    public static void main(String[] args) {
        promise1();
        promise2();
        promise3();
        promise4();
        promise5();
        promise6();
        promise7();
        promise8();
        promise9();
        promise10();
        promise11();
        promise12();
        promise13();
        promise14();
        promise15();
        promise16();
        promise17();
        promise18();
        promise19();
        promise20();
        promise21();
        promise22();
        promise23();
        promise24();
        promise25();
        promise26();
        promise27();
        promise28();
        promise29();
        promise30();
        promise31();
        promise32();
        promise33();
        promise34();
        promise35();
        promise36();
        promise37();
        promise37Ends();
        promise38();
        promise39();
        Check.finish("PromisesTest");
    }

    /** A machine with what commands add, without their semicolons. */
    private static LossyChannels machine(String commands) {
        LossyChannels x = new LossyChannels();
        add(x, commands);
        return x;
    }

    /** Reads each command on its own, so that all of them fit. */
    private static void add(LossyChannels x, String commands) {
        for (String command : commands.split(" ")) {
            append(x, command + ";");
            x.read();
        }
    }

    private static void append(LossyChannels x, String text) {
        for (int i = 0; i < text.length(); i++) {
            x.append(text.charAt(i));
        }
    }

    private static void put(LossyChannels x, int channel, String word) {
        for (int i = 0; i < word.length(); i++) {
            x.put(channel, word.charAt(i) - 'a');
        }
    }

    private static void present(LossyChannels x, int state, String first, String second) {
        x.setState(state);
        x.clear(0);
        x.clear(1);
        put(x, 0, first);
        put(x, 1, second);
    }

    private static Object restored(LossyChannels x) {
        x.restore();
        return "restored";
    }

    private static Object appended(LossyChannels x, char c) {
        x.append(c);
        return "appended";
    }

    private static void promise1() {
        LossyChannels x = new LossyChannels();
        Check.due("1 transitionCount", x.transitionCount(), 0);
        Check.due("1 present", Look.config(x), "0//");
        Check.due("1 goals", x.clearGoals(), 0);
        Check.due("1 undo", () -> x.undo(), "throws " + STATE);
        Check.due("1 restore", () -> restored(x), "throws " + STATE);
        Check.due("1 read", () -> x.read(), "throws " + ARGUMENT);
        LossyChannels y = new LossyChannels();
        y.addTransition(0, 0, 0, 0, 0);
        Check.due("1 objects of their own", x.transitionCount(), 0);
    }

    private static void promise2() {
        LossyChannels x = new LossyChannels();
        Check.due("2 first", x.addTransition(5, 0, 2, 1, 2), 0);
        Check.due("2 ignored", x.addTransition(0, 5, 0, -7, Integer.MAX_VALUE), 1);
        Check.due("2 its parts", Look.at(x).startsWith("5 0 2 1 2 0 5 0 -1 -1 |"), true);
        for (int wrong : new int[] {-1, 6, Integer.MIN_VALUE, Integer.MAX_VALUE}) {
            Check.refused(x, "2 old state", ARGUMENT, () -> x.addTransition(wrong, 0, 0, 0, 0));
            Check.refused(x, "2 new state", ARGUMENT, () -> x.addTransition(0, wrong, 0, 0, 0));
            Check.refused(x, "2 action", ARGUMENT, () -> x.addTransition(0, 0, wrong, 0, 0));
            Check.refused(x, "2 channel", ARGUMENT, () -> x.addTransition(0, 0, 1, wrong, 0));
            Check.refused(x, "2 letter", ARGUMENT, () -> x.addTransition(0, 0, 2, 0, wrong));
        }
        Check.refused(x, "2 action 3", ARGUMENT, () -> x.addTransition(0, 0, 3, 0, 0));
        Check.refused(x, "2 channel 2", ARGUMENT, () -> x.addTransition(0, 0, 1, 2, 0));
        Check.refused(x, "2 letter 3", ARGUMENT, () -> x.addTransition(0, 0, 1, 0, 3));
        for (int t = 2; t < 10; t++) {
            Check.due("2 number " + t, x.addTransition(t % 6, 1, 1, 0, 0), t);
        }
        Check.refused(x, "2 eleventh", STATE, () -> x.addTransition(0, 0, 0, 0, 0));
        Check.refused(x, "2 eleventh and wrong", ARGUMENT, () -> x.addTransition(6, 0, 0, 0, 0));
        LossyChannels y = machine("goal(1,,)");
        Check.due("2 before", y.distance(), -1);
        y.addTransition(0, 1, 0, 0, 0);
        Check.due("2 the analysis sees it", y.distance(), 1);
    }

    private static void promise3() {
        LossyChannels x = machine("send(0,1,0,a) recv(1,2,1,b) move(2,3)");
        Check.refused(x, "3 number 3", INDEX, () -> x.removeTransition(3));
        for (int far : FAR) {
            Check.refused(x, "3 far", INDEX, () -> x.removeTransition(far));
        }
        Check.due("3 first", x.removeTransition(0), 2);
        Check.due("3 the later ones", Look.at(x).startsWith("1 2 2 1 1 2 3 0 -1 -1 |"), true);
        Check.due("3 last", x.removeTransition(1), 1);
        Check.due("3 the earlier one", Look.at(x).startsWith("1 2 2 1 1 |"), true);
        Check.due("3 none remains", x.removeTransition(0), 0);
        Check.refused(x, "3 none", INDEX, () -> x.removeTransition(0));
        LossyChannels y = machine("move(0,1) goal(1,,) move(1,2)");
        Check.due("3 before", y.distance(), 1);
        y.fire(0);
        y.removeTransition(0);
        Check.due("3 steps stay", y.undo(), 0);
        Check.due("3 the analysis sees it", y.distance(), -1);
        for (int t = 1; t < 10; t++) {
            y.addTransition(0, t % 6, 0, 0, 0);
        }
        Check.due("3 of ten", y.removeTransition(9), 9);
        Check.due("3 there is room again", y.addTransition(0, 0, 0, 0, 0), 9);
    }

    private static void promise4() {
        LossyChannels x = machine("recv(4,3,1,c) move(1,2)");
        int[] parts = {4, 3, 2, 1, 2};
        int[] move = {1, 2, 0, -1, -1};
        for (int what = 0; what < 5; what++) {
            Check.due("4 recv " + what, x.transition(0, what), parts[what]);
            Check.due("4 move " + what, x.transition(1, what), move[what]);
        }
        for (int wrong : new int[] {-1, 5, Integer.MIN_VALUE, Integer.MAX_VALUE}) {
            Check.refused(x, "4 what", ARGUMENT, () -> x.transition(1, wrong));
            Check.refused(x, "4 both", INDEX, () -> x.transition(2, wrong));
        }
        for (int far : FAR) {
            Check.refused(x, "4 transition", INDEX, () -> x.transition(far, 0));
        }
        Check.refused(x, "4 transition 2", INDEX, () -> x.transition(2, 0));
    }

    private static void promise5() {
        LossyChannels x = new LossyChannels();
        for (int t = 0; t < 10; t++) {
            Check.due("5 count", x.transitionCount(), t);
            x.addTransition(0, 0, 0, 0, 0);
        }
        Check.due("5 ten", x.transitionCount(), 10);
        x.removeTransition(4);
        Check.due("5 nine", x.transitionCount(), 9);
    }

    private static void promise6() {
        LossyChannels x = machine("move(0,1)");
        Check.due("6 five", x.setState(5), 0);
        Check.due("6 back", x.setState(0), 5);
        for (int wrong : new int[] {-1, 6, Integer.MIN_VALUE, Integer.MAX_VALUE}) {
            Check.refused(x, "6 state", ARGUMENT, () -> x.setState(wrong));
        }
        x.fire(0);
        Check.due("6 a wrong one forgets nothing", () -> x.setState(6), "throws " + ARGUMENT);
        Check.due("6 undone", x.undo(), 0);
        x.fire(0);
        Check.due("6 the same", x.setState(1), 1);
        Check.due("6 steps are forgotten", () -> x.undo(), "throws " + STATE);
    }

    private static void promise7() {
        LossyChannels x = machine("move(0,0)");
        for (int i = 1; i <= 10; i++) {
            Check.due("7 channel 1", x.put(1, i % 3), i);
        }
        Check.due("7 words", Look.config(x), "0//bcabcabcab");
        Check.refused(x, "7 full", STATE, () -> x.put(1, 0));
        Check.refused(x, "7 full, no letter", ARGUMENT, () -> x.put(1, 3));
        Check.refused(x, "7 no channel, no letter", INDEX, () -> x.put(2, 3));
        for (int far : FAR) {
            Check.refused(x, "7 channel", INDEX, () -> x.put(far, 0));
            Check.refused(x, "7 letter", ARGUMENT, () -> x.put(0, far));
        }
        x.fire(0);
        Check.refused(x, "7 forgets nothing", STATE, () -> x.put(1, 0));
        Check.due("7 undone", x.undo(), 0);
        x.fire(0);
        Check.due("7 channel 0", x.put(0, 2), 1);
        Check.due("7 steps are forgotten", () -> x.undo(), "throws " + STATE);
    }

    private static void promise8() {
        LossyChannels x = machine("move(0,0)");
        present(x, 0, "abc", "ba");
        Check.due("8 clear", x.clear(0), 3);
        Check.due("8 the other stays", Look.config(x), "0//ba");
        Check.refused(x, "8 channel 2", INDEX, () -> x.clear(2));
        for (int far : FAR) {
            Check.refused(x, "8 channel", INDEX, () -> x.clear(far));
        }
        x.fire(0);
        Check.due("8 empty", x.clear(0), 0);
        Check.due("8 steps are forgotten", () -> x.undo(), "throws " + STATE);
        Check.due("8 channel 1", x.clear(1), 2);
        Check.due("8 again", x.clear(1), 0);
    }

    private static void promise9() {
        LossyChannels x = machine("move(3,5)");
        Check.due("9 new", x.state(), 0);
        x.setState(3);
        Check.due("9 set", x.state(), 3);
        x.fire(0);
        Check.due("9 fired", x.state(), 5);
        x.undo();
        Check.due("9 undone", x.state(), 3);
    }

    private static void promise10() {
        LossyChannels x = machine("send(0,0,1,c)");
        present(x, 0, "aabbccaabb", "");
        Check.due("10 full", x.length(0), 10);
        Check.due("10 empty", x.length(1), 0);
        x.fire(0);
        Check.due("10 sent", x.length(1), 1);
        x.lose(0, 9);
        Check.due("10 lost", x.length(0), 9);
        Check.refused(x, "10 channel 2", INDEX, () -> x.length(2));
        for (int far : FAR) {
            Check.refused(x, "10 channel", INDEX, () -> x.length(far));
        }
    }

    private static void promise11() {
        LossyChannels x = new LossyChannels();
        present(x, 0, "cabbacabca", "b");
        for (int i = 0; i < 10; i++) {
            Check.due("11 letter " + i, x.letter(0, i), "cabbacabca".charAt(i) - 'a');
        }
        Check.due("11 other", x.letter(1, 0), 1);
        Check.refused(x, "11 behind", ELEMENT, () -> x.letter(0, 10));
        Check.refused(x, "11 behind the other", ELEMENT, () -> x.letter(1, 1));
        for (int far : FAR) {
            Check.refused(x, "11 index", ELEMENT, () -> x.letter(0, far));
            Check.refused(x, "11 channel", INDEX, () -> x.letter(far, 0));
            Check.refused(x, "11 both", INDEX, () -> x.letter(2, far));
        }
    }

    private static void promise12() {
        LossyChannels x = machine("move(0,1) send(0,1,0,a) recv(0,1,0,a) recv(0,1,0,b) recv(0,0,1,a) move(1,0)");
        Check.due("12 empty", x.enabled(false), 3);
        Check.due("12 empty, with losses", x.enabled(true), 3);
        present(x, 0, "cba", "");
        Check.due("12 without", x.enabled(false), 3);
        Check.due("12 with", x.enabled(true), 15);
        present(x, 0, "ab", "ca");
        Check.due("12 the first", x.enabled(false), 7);
        Check.due("12 any", x.enabled(true), 31);
        present(x, 0, "aaaaaaaaaa", "");
        Check.due("12 full", x.enabled(false), 7);
        present(x, 1, "ab", "a");
        Check.due("12 other state", x.enabled(true), 32);
        x.setState(2);
        Check.due("12 none", x.enabled(true), 0);
    }

    private static void promise13() {
        LossyChannels x = machine("move(0,4) send(0,1,0,c) recv(1,2,0,a) send(2,2,1,b)");
        present(x, 0, "ab", "");
        Check.refused(x, "13 transition 4", INDEX, () -> x.fire(4));
        for (int far : FAR) {
            Check.refused(x, "13 transition", INDEX, () -> x.fire(far));
        }
        Check.refused(x, "13 other state", STATE, () -> x.fire(2));
        Check.due("13 send", x.fire(1), 1);
        Check.due("13 sent", Look.config(x), "1/abc/");
        Check.due("13 receive", x.fire(2), 2);
        Check.due("13 received", Look.config(x), "2/bc/");
        x.undo();
        x.lose(0, 0);
        Check.refused(x, "13 no letter", STATE, () -> x.fire(2));
        present(x, 1, "ba", "a");
        Check.refused(x, "13 no losses", STATE, () -> x.fire(2));
        present(x, 1, "bc", "");
        x.setState(0);
        Check.due("13 move", x.fire(0), 4);
        Check.due("13 moved", Look.config(x), "4/bc/");
        present(x, 2, "aaaaaaaaaa", "aaaaaaaaa");
        Check.due("13 tenth", x.fire(3), 2);
        Check.due("13 ten", Look.config(x), "2/aaaaaaaaaa/aaaaaaaaab");
        Check.refused(x, "13 eleventh", STATE, () -> x.fire(3));
        Check.due("13 it was no step", x.undo(), 0);
        Check.due("13 undone", x.length(1), 9);
        x.setState(1);
        Check.due("13 receive from a full one", x.fire(2), 2);
    }

    private static void promise14() {
        LossyChannels x = new LossyChannels();
        present(x, 0, "abcab", "c");
        Check.refused(x, "14 channel 2", INDEX, () -> x.lose(2, 0));
        Check.refused(x, "14 both", INDEX, () -> x.lose(2, 9));
        for (int far : FAR) {
            Check.refused(x, "14 channel", INDEX, () -> x.lose(far, 0));
            Check.refused(x, "14 index", ELEMENT, () -> x.lose(0, far));
        }
        Check.refused(x, "14 behind", ELEMENT, () -> x.lose(0, 5));
        Check.refused(x, "14 behind the other", ELEMENT, () -> x.lose(1, 1));
        Check.due("14 middle", x.lose(0, 2), 2);
        Check.due("14 end", x.lose(0, 3), 1);
        Check.due("14 beginning", x.lose(0, 0), 0);
        Check.due("14 words", Look.config(x), "0/ba/c");
        Check.due("14 other", x.lose(1, 0), 2);
        Check.refused(x, "14 empty", ELEMENT, () -> x.lose(1, 0));
        for (int i = 0; i < 4; i++) {
            Check.due("14 steps", x.undo(), 1);
        }
        Check.due("14 all back", Look.config(x), "0/abcab/c");
    }

    private static void promise15() {
        LossyChannels x = machine("send(0,1,0,a) move(1,0)");
        Check.refused(x, "15 none", STATE, () -> x.undo());
        x.fire(0);
        x.lose(0, 0);
        x.fire(1);
        x.addTransition(0, 0, 0, 0, 0);
        x.addGoal();
        x.removeTransition(0);
        Check.due("15 firing", x.undo(), 0);
        Check.due("15 before it", Look.config(x), "1//");
        Check.due("15 loss", x.undo(), 1);
        Check.due("15 before the loss", Look.config(x), "1/a/");
        x.clearGoals();
        Check.due("15 first", x.undo(), 0);
        Check.due("15 before all", Look.config(x), "0//");
        Check.refused(x, "15 no more", STATE, () -> x.undo());
        twentySteps();
    }

    private static void twentySteps() {
        LossyChannels x = machine("send(0,0,0,a) recv(0,0,0,a)");
        x.fire(0);
        x.lose(0, 0);
        for (int i = 0; i < 10; i++) {
            x.fire(0);
            x.fire(1);
        }
        for (int i = 0; i < 20; i++) {
            Check.due("15 of twenty", x.undo(), 0);
            Check.due("15 word of twenty", x.length(0), (i + 1) % 2);
        }
        Check.refused(x, "15 older ones are forgotten", STATE, () -> x.undo());
        put(x, 0, "aaaaaaaaaa");
        put(x, 1, "aaaaaaaaaa");
        for (int i = 0; i < 19; i++) {
            x.lose(i % 2, 0);
        }
        x.fire(0);
        x.fire(0);
        Check.due("15 kinds move along", "" + x.undo() + x.undo() + x.undo(), "001");
        for (int i = 0; i < 17; i++) {
            Check.due("15 losses", x.undo(), 1);
        }
        Check.due("15 behind the first loss", Look.config(x), "0/aaaaaaaaa/aaaaaaaaaa");
        Check.refused(x, "15 the first loss is forgotten", STATE, () -> x.undo());
        present(x, 0, "aaaaaaaaa", "aaaaaaaaaa");
        x.fire(0);
        for (int i = 0; i < 20; i++) {
            x.lose(i % 2, 0);
        }
        for (int i = 0; i < 20; i++) {
            Check.due("15 the firing is forgotten", x.undo(), 1);
        }
        Check.refused(x, "15 nothing before the losses", STATE, () -> x.undo());
    }

    private static void promise16() {
        LossyChannels x = machine("send(0,1,0,b) move(1,0) recv(1,1,0,a) send(1,1,1,c)");
        Check.due("16 one alone", x.increase(), -1);
        x.fire(0);
        Check.due("16 states differ", x.increase(), -1);
        x.fire(3);
        Check.due("16 channel 1", x.increase(), 102);
        x.fire(1);
        Check.due("16 the least j", x.increase(), 102);
        x.undo();
        x.undo();
        Check.due("16 without them", x.increase(), -1);
        x.fire(1);
        Check.due("16 least i", x.increase(), 2);
        present(x, 1, "aab", "");
        x.fire(2);
        x.lose(0, 0);
        Check.due("16 losses alone", x.increase(), -1);
        x.fire(3);
        Check.due("16 with the first ones not below", x.increase(), 203);
        present(x, 0, "", "");
        Check.due("16 forgotten", x.increase(), -1);
        increaseAtTheEnd();
    }

    private static void increaseAtTheEnd() {
        LossyChannels x = machine("move(0,0)");
        x.fire(0);
        Check.due("16 equal ones", x.increase(), 1);
        present(x, 0, "aaaaaaaaaa", "bbbbbbbbbb");
        for (int i = 0; i < 19; i++) {
            x.lose(i % 2, 0);
        }
        Check.due("16 nineteen losses", x.increase(), -1);
        x.fire(0);
        Check.due("16 the last of the trail", x.increase(), 1920);
        x.fire(0);
        Check.due("16 numbers move along", x.increase(), 1819);
    }

    private static void promise17() {
        LossyChannels x = new LossyChannels();
        Check.due("17 empty", x.isBelow(0), true);
        present(x, 0, "", "cba");
        Check.due("17 empty is below", x.isBelow(0), true);
        Check.due("17 not the other way", x.isBelow(1), false);
        present(x, 0, "acb", "aacbcb");
        Check.due("17 scattered", x.isBelow(0), true);
        Check.due("17 longer", x.isBelow(1), false);
        present(x, 0, "ab", "ba");
        Check.due("17 order counts", x.isBelow(0), false);
        present(x, 0, "abcabcabca", "abcabcabca");
        Check.due("17 equal", x.isBelow(1), true);
        present(x, 0, "aa", "ab");
        Check.due("17 a letter once", x.isBelow(0), false);
        Check.refused(x, "17 channel 2", INDEX, () -> x.isBelow(2));
        for (int far : FAR) {
            Check.refused(x, "17 channel", INDEX, () -> x.isBelow(far));
        }
    }

    private static void promise18() {
        LossyChannels x = new LossyChannels();
        Check.due("18 empty", x.embeddings(0), 1);
        present(x, 0, "aaaaa", "aaaaaaaaaa");
        Check.due("18 most", x.embeddings(0), 252);
        Check.due("18 none", x.embeddings(1), 0);
        present(x, 0, "ab", "aabb");
        Check.due("18 pairs", x.embeddings(0), 4);
        present(x, 0, "abcabcabca", "abcabcabca");
        Check.due("18 equal", x.embeddings(1), 1);
        present(x, 0, "", "abc");
        Check.due("18 the empty set of places", x.embeddings(0), 1);
        present(x, 0, "caccab", "ca");
        Check.due("18 channel 1", x.embeddings(1), 4);
        Check.refused(x, "18 channel 2", INDEX, () -> x.embeddings(2));
        for (int far : FAR) {
            Check.refused(x, "18 channel", INDEX, () -> x.embeddings(far));
        }
    }

    private static void promise19() {
        LossyChannels x = new LossyChannels();
        Check.due("19 empty", x.common(), 0);
        present(x, 0, "abc", "");
        Check.due("19 one empty", x.common(), 0);
        present(x, 0, "aaaa", "bbcb");
        Check.due("19 nothing", x.common(), 0);
        present(x, 0, "b", "a");
        Check.due("19 one letter each", x.common(), 0);
        present(x, 0, "bbc", "c");
        Check.due("19 at the end", x.common(), 1);
        present(x, 0, "c", "bbc");
        Check.due("19 at the other end", x.common(), 1);
        present(x, 0, "abcbabca", "bacabbca");
        Check.due("19 some", x.common(), 6);
        present(x, 0, "abcabcabca", "abcabcabca");
        Check.due("19 all", x.common(), 10);
        present(x, 0, "cba", "abcabc");
        Check.due("19 crossing", x.common(), 2);
    }

    private static void promise20() {
        LossyChannels x = new LossyChannels();
        Check.due("20 the empty one", x.subwords(0), 1);
        present(x, 0, "aaaaaaaaaa", "abcabcabca");
        Check.due("20 one letter", x.subwords(0), 11);
        Check.due("20 most", x.subwords(1), 600);
        present(x, 0, "abab", "abc");
        Check.due("20 abab", x.subwords(0), 12);
        Check.due("20 abc", x.subwords(1), 8);
        Check.refused(x, "20 channel 2", INDEX, () -> x.subwords(2));
        for (int far : FAR) {
            Check.refused(x, "20 channel", INDEX, () -> x.subwords(far));
        }
    }

    private static void promise21() {
        LossyChannels x = machine("move(1,0)");
        present(x, 1, "ab", "c");
        Check.due("21 first", x.addGoal(), 1);
        Check.due("21 it is the present one", Look.lastBasis(x), " 1/ab/c");
        Check.due("21 an equal one", x.addGoal(), 2);
        Check.due("21 stays once", Look.lastBasis(x), " 1/ab/c");
        x.fire(0);
        Check.due("21 third", x.addGoal(), 3);
        Check.due("21 in the basis", Look.lastBasis(x), " 0/ab/c 1/ab/c");
        Check.refused(x, "21 fourth", STATE, () -> x.addGoal());
        Check.due("21 steps stay", x.undo(), 0);
    }

    private static void promise22() {
        LossyChannels x = machine("goal(1,a,b) goal(1,a,b) goal(2,,) move(0,1)");
        x.fire(0);
        Check.due("22 three", x.clearGoals(), 3);
        Check.due("22 none", x.clearGoals(), 0);
        Check.due("22 no analysis", () -> x.analyze(), "throws " + UNSUPPORTED);
        Check.due("22 steps stay", x.undo(), 0);
        Check.due("22 again", x.addGoal(), 1);
        Check.due("22 the new one alone", Look.lastBasis(x), " 0//");
    }

    /** Last rounds 12 and 13: each firing sends one letter of the goal. */
    private static final String TWELVE = "send(0,0,0,a) send(0,0,1,a) goal(0,aaaaaa,aaaaaa)";
    private static final String THIRTEEN = "send(0,0,0,a) send(0,0,1,a) goal(0,aaaaaaa,aaaaaa)";
    /** Greatest bases of 30, in the last round and before it, and of 31. */
    private static final String THIRTY = "send(1,2,1,c) move(2,3) move(2,0) recv(3,4,0,a) send(1,4,0,c) send(4,2,1,a)"
            + " recv(3,4,1,a) send(4,2,1,c) move(4,4) goal(4,,ca)";
    private static final String THIRTY_BEFORE = "send(2,0,0,b) send(2,0,0,a) send(1,1,1,a) send(2,0,1,a) send(2,0,1,b)"
            + " send(2,3,0,b) move(0,1) recv(0,2,0,a) move(0,1) goal(3,,bbab) goal(1,b,c) goal(1,accb,aabb)";
    private static final String THIRTY_ONE = "recv(0,2,1,b) recv(2,2,0,c) send(0,0,1,b) recv(0,2,0,c) move(1,0)"
            + " recv(1,2,1,a) send(2,1,0,b) send(2,2,1,b) goal(1,baa,ab) goal(0,abb,cba) goal(0,aa,bab)";
    /** Its bases have 3, 12, 13, 20, 25, 34, 26, 20, 9, 5 and 2 configurations. */
    private static final String THIRTY_FOUR_BETWEEN = "send(0,0,0,a) recv(1,0,1,a) send(0,1,1,c) recv(1,0,0,b) recv(1,0,0,a)"
            + " send(1,1,0,b) move(1,1) goal(0,baac,) goal(0,,aca) goal(0,ab,cc)";

    private static void promise23() {
        LossyChannels x = new LossyChannels();
        Check.refused(x, "23 no goal", UNSUPPORTED, () -> x.analyze());
        x.addGoal();
        Check.due("23 a goal alone", x.analyze(), 1);
        Check.due("23 round 12", machine(TWELVE).analyze(), 1);
        Check.due("23 round 13", machine(THIRTEEN).analyze(), 0);
        Check.due("23 thirty", machine(THIRTY).analyze(), 1);
        Check.due("23 thirty before", machine(THIRTY_BEFORE).analyze(), 1);
        Check.due("23 thirty-one", machine(THIRTY_ONE).analyze(), 0);
        Check.due("23 thirty-four between", machine(THIRTY_FOUR_BETWEEN).analyze(), 0);
        LossyChannels y = machine(THIRTEEN);
        Check.due("23 given up", y.analyze(), 0);
        y.removeTransition(0);
        Check.due("23 without a transition", y.analyze(), 1);
        y.addTransition(0, 0, 1, 0, 0);
        Check.due("23 with it", y.analyze(), 0);
        y.setState(3);
        y.addGoal();
        Check.due("23 with another goal", y.analyze(), 0);
        y.clearGoals();
        y.addGoal();
        Check.due("23 with another goal alone", y.analyze(), 1);
    }

    /** No goal and a given up analysis come first, also with wrong arguments. */
    private static void goalsAndAnalysisFirst(String what, AnalysisCall call) {
        LossyChannels none = machine(THIRTEEN);
        none.clearGoals();
        Check.refused(none, what + " without goals", UNSUPPORTED, () -> call.of(none));
        LossyChannels givenUp = machine(THIRTEEN);
        Check.refused(givenUp, what + " given up", STATE, () -> call.of(givenUp));
        LossyChannels tooGreat = machine(THIRTY_FOUR_BETWEEN);
        Check.refused(tooGreat, what + " too great", STATE, () -> call.of(tooGreat));
    }

    interface AnalysisCall {
        Object of(LossyChannels x);
    }

    private static void promise24() {
        goalsAndAnalysisFirst("24", x -> x.lastRound());
        Check.due("24 at once", machine("goal(3,a,b)").lastRound(), 0);
        Check.due("24 one", machine("move(0,1) goal(1,,)").lastRound(), 1);
        Check.due("24 twelve", machine(TWELVE).lastRound(), 12);
        Check.due("24 thirty", machine(THIRTY).lastRound(), 8);
        Check.due("24 a loop adds nothing", machine("recv(1,1,0,a) goal(1,,)").lastRound(), 0);
        LossyChannels x = machine("send(0,0,0,b) goal(0,aaaaaaaaaa,)");
        Check.due("24 other letters", x.lastRound(), 0);
        x.addTransition(0, 0, 1, 0, 0);
        Check.due("24 ten letters", x.lastRound(), 10);
    }

    private static void promise25() {
        goalsAndAnalysisFirst("25", x -> x.basisSize(-1));
        LossyChannels x = machine(TWELVE);
        int[] sizes = {1, 2, 3, 4, 5, 6, 7, 6, 5, 4, 3, 2, 1};
        for (int round = 0; round <= 12; round++) {
            Check.due("25 size of round " + round, x.basisSize(round), sizes[round]);
        }
        Check.refused(x, "25 round 13", INDEX, () -> x.basisSize(13));
        for (int far : FAR) {
            Check.refused(x, "25 round", INDEX, () -> x.basisSize(far));
        }
        Check.due("25 thirty", machine(THIRTY).basisSize(8), 30);
        Check.due("25 thirty before", machine(THIRTY_BEFORE).basisSize(9), 30);
        Check.due("25 less behind it", machine(THIRTY_BEFORE).basisSize(10), 29);
        LossyChannels y = machine("goal(1,a,b) goal(1,a,) goal(1,a,b)");
        Check.due("25 goals above goals", y.basisSize(0), 1);
        Check.refused(y, "25 behind the last round", INDEX, () -> y.basisSize(1));
        Check.due("25 equal goals", machine("goal(1,a,b) goal(1,a,b) goal(2,a,b)").basisSize(0), 2);
    }

    private static void promise26() {
        goalsAndAnalysisFirst("26", x -> x.basis(-1, -1, -1));
        LossyChannels x = machine("goal(2,b,a) goal(1,aa,ccc) goal(1,c,bbbb) move(0,2)");
        Check.due("26 order and parts", Look.bases(x), "0: 1 1 4; 1 2 3; 2 1 1;1: 0 1 1; 1 1 4; 1 2 3; 2 1 1;"
                + " 0/b/a 1/c/bbbb 1/aa/ccc 2/b/a");
        Check.refused(x, "26 round", INDEX, () -> x.basis(2, 0, 0));
        Check.refused(x, "26 configuration", INDEX, () -> x.basis(0, 3, 0));
        Check.due("26 the last one", x.basis(1, 3, 0), 2);
        Check.refused(x, "26 behind the last one", INDEX, () -> x.basis(1, 4, 0));
        Check.refused(x, "26 part", INDEX, () -> x.basis(0, 0, 3));
        for (int far : FAR) {
            Check.refused(x, "26 far round", INDEX, () -> x.basis(far, 0, 0));
            Check.refused(x, "26 far configuration", INDEX, () -> x.basis(0, far, 0));
            Check.refused(x, "26 far part", INDEX, () -> x.basis(0, 0, far));
        }
        Check.due("26 words in order", Look.lastBasis(machine("goal(0,ab,c) goal(0,aa,cc) goal(0,ba,b)")),
                " 0/aa/cc 0/ab/c 0/ba/b");
        Check.due("26 second words in order", Look.lastBasis(machine("goal(0,a,cb) goal(0,a,ca) goal(0,a,bbb)")),
                " 0/a/ca 0/a/cb 0/a/bbb");
    }

    private static void promise27() {
        goalsAndAnalysisFirst("27", x -> x.basisLetter(-1, -1, -1));
        LossyChannels x = machine("recv(0,1,0,c) recv(2,0,0,b) recv(3,2,1,a) goal(1,aaaaaaaaaa,)");
        Check.due("27 words", Look.lastBasis(x),
                " 0/caaaaaaaaaa/ 1/aaaaaaaaaa/ 2/bcaaaaaaaaaa/ 3/bcaaaaaaaaaa/a");
        Check.due("27 last place", x.basisLetter(2, 0, 11), 0);
        Check.refused(x, "27 place", INDEX, () -> x.basisLetter(2, 0, 12));
        Check.refused(x, "27 empty", INDEX, () -> x.basisLetter(2, 1, 0));
        Check.refused(x, "27 channel", INDEX, () -> x.basisLetter(2, 2, 0));
        Check.refused(x, "27 configuration", INDEX, () -> x.basisLetter(4, 0, 0));
        for (int far : FAR) {
            Check.refused(x, "27 far configuration", INDEX, () -> x.basisLetter(far, 0, 0));
            Check.refused(x, "27 far channel", INDEX, () -> x.basisLetter(0, far, 0));
            Check.refused(x, "27 far place", INDEX, () -> x.basisLetter(0, 0, far));
        }
        LossyChannels y = machine("move(0,1) move(1,2) move(2,3) move(3,4) recv(4,5,0,a) recv(5,5,0,b) recv(5,5,1,c)"
                + " goal(5,aaaaaaaaaa,cccccccccc)");
        Check.due("27 eleven letters", Look.lastBasis(y), " 0/aaaaaaaaaaa/cccccccccc 1/aaaaaaaaaaa/cccccccccc"
                + " 2/aaaaaaaaaaa/cccccccccc 3/aaaaaaaaaaa/cccccccccc 4/aaaaaaaaaaa/cccccccccc"
                + " 5/aaaaaaaaaa/cccccccccc");
    }

    private static void promise28() {
        goalsAndAnalysisFirst("28", x -> x.coveringStates());
        Check.due("28 goal with a letter", machine("goal(1,a,)").coveringStates(), 0);
        Check.due("28 other channel", machine("goal(1,,a)").coveringStates(), 0);
        Check.due("28 goal without", machine("goal(5,,)").coveringStates(), 32);
        Check.due("28 sent", machine("send(0,1,0,a) recv(1,2,0,a) recv(3,1,1,b) move(4,0) goal(2,,)").coveringStates(), 21);
        Check.due("28 all", machine("move(0,1) move(1,2) move(2,3) move(3,4) move(4,5) goal(5,,)").coveringStates(), 63);
    }

    private static void promise29() {
        goalsAndAnalysisFirst("29", x -> x.least(-1));
        LossyChannels x = machine("recv(0,1,0,a) recv(2,0,1,b) recv(0,3,0,c) goal(1,ab,c) goal(3,,bb)");
        int[] least = {3, 3, 4, 2, -1, -1};
        for (int state = 0; state < 6; state++) {
            Check.due("29 state " + state, x.least(state), least[state]);
        }
        for (int wrong : new int[] {-1, 6, Integer.MIN_VALUE, Integer.MAX_VALUE}) {
            Check.refused(x, "29 state", ARGUMENT, () -> x.least(wrong));
        }
        Check.due("29 nothing needed", machine("goal(4,,)").least(4), 0);
        Check.due("29 twenty", machine("goal(4,aaaaaaaaaa,bbbbbbbbbb)").least(4), 20);
        Check.due("29 the least of several", machine("goal(4,aaa,b) goal(4,b,a) goal(4,,bbb)").least(4), 2);
    }

    private static void promise30() {
        goalsAndAnalysisFirst("30", x -> x.distance());
        LossyChannels x = machine("recv(0,1,0,a) recv(1,2,0,b) move(3,1) goal(2,c,) goal(5,,)");
        present(x, 0, "cabbac", "a");
        Check.due("30 two", x.distance(), 2);
        present(x, 0, "cbaacb", "");
        Check.due("30 no letter behind", x.distance(), -1);
        present(x, 1, "bc", "");
        Check.due("30 one", x.distance(), 1);
        present(x, 2, "abacab", "c");
        Check.due("30 covered at once", x.distance(), 0);
        present(x, 4, "aaaa", "");
        Check.due("30 no run", x.distance(), -1);
        LossyChannels y = machine(TWELVE);
        Check.due("30 twelve", y.distance(), 12);
        present(y, 0, "aaaaaaaa", "aaaa");
        Check.due("30 less", y.distance(), 2);
    }

    private static void promise31() {
        goalsAndAnalysisFirst("31", x -> x.covering(-1));
        LossyChannels x = machine("move(0,5) recv(0,1,0,b) recv(0,1,0,a) send(1,2,1,c) move(1,2) goal(2,b,)");
        present(x, 0, "cbab", "");
        Check.due("31 the least first", x.covering(0), 1);
        Check.due("31 then", x.covering(1), 3);
        Check.refused(x, "31 no third", ELEMENT, () -> x.covering(2));
        for (int far : FAR) {
            Check.refused(x, "31 index", ELEMENT, () -> x.covering(far));
        }
        present(x, 0, "ab", "");
        Check.due("31 a letter must stay", x.covering(0), 2);
        present(x, 0, "cba", "");
        Check.refused(x, "31 no run", ELEMENT, () -> x.covering(0));
        present(x, 2, "b", "");
        Check.refused(x, "31 no firing", ELEMENT, () -> x.covering(0));
        LossyChannels y = machine(TWELVE);
        for (int i = 0; i < 12; i++) {
            Check.due("31 of twelve", y.covering(i), i / 6);
        }
        Check.refused(y, "31 behind twelve", ELEMENT, () -> y.covering(12));
        LossyChannels z = machine("send(0,0,0,a) recv(0,1,0,a) goal(1,aaa,)");
        present(z, 0, "aaaaaaaaaa", "");
        Check.due("31 the shortest one", z.covering(0), 1);
        present(z, 0, "", "");
        Check.due("31 four to send", z.covering(3), 0);
        Check.due("31 one to receive", z.covering(4), 1);
    }

    private static void promise32() {
        goalsAndAnalysisFirst("32", x -> x.lost(-1));
        LossyChannels x = machine("recv(0,1,0,a) send(1,2,0,c) recv(2,3,0,c) recv(3,4,1,b) goal(4,,)");
        present(x, 0, "bcabb", "aaaab");
        int[] lost = {2, 0, 2, 4};
        for (int i = 0; i < 4; i++) {
            Check.due("32 before firing " + i, x.lost(i), lost[i]);
        }
        Check.refused(x, "32 no fifth", ELEMENT, () -> x.lost(4));
        for (int far : FAR) {
            Check.refused(x, "32 index", ELEMENT, () -> x.lost(far));
        }
        present(x, 4, "aaa", "bbb");
        Check.refused(x, "32 no firing", ELEMENT, () -> x.lost(0));
        present(x, 5, "aaa", "bbb");
        Check.refused(x, "32 no run", ELEMENT, () -> x.lost(0));
        present(x, 3, "ccc", "ccccccccbb");
        Check.due("32 eight", x.lost(0), 8);
        Check.due("32 nothing else changes", Look.config(x), "3/ccc/ccccccccbb");
    }

    private static void promise33() {
        LossyChannels x = machine("move(0,1) send(1,2,0,a) recv(2,3,0,a) recv(3,4,0,b) move(0,0) recv(4,5,0,a)");
        int[] empty = {1, 3, 7, 15, 15};
        for (int n = 0; n <= 4; n++) {
            Check.due("33 after " + n, x.statesAfter(n), empty[n]);
        }
        put(x, 0, "ba");
        Check.due("33 no b behind the a", x.statesAfter(4), 15);
        Check.refused(x, "33 five", ARGUMENT, () -> x.statesAfter(5));
        for (int far : FAR) {
            Check.refused(x, "33 number", ARGUMENT, () -> x.statesAfter(far));
        }
        present(x, 2, "cab", "");
        Check.due("33 exactly one", x.statesAfter(1), 8);
        Check.due("33 exactly two", x.statesAfter(2), 16);
        Check.due("33 exactly three", x.statesAfter(3), 0);
        LossyChannels y = machine("send(0,0,0,a) recv(0,1,0,a)");
        present(y, 0, "cccccccccc", "");
        Check.due("33 words of any length", y.statesAfter(4), 3);
        LossyChannels all = new LossyChannels();
        for (int t = 0; t < 10; t++) {
            all.addTransition(0, t < 6 ? t : 0, 1, t % 2, t % 3);
        }
        Check.due("33 all states, ten transitions", all.statesAfter(4), 63);
    }

    private static void promise34() {
        LossyChannels x = machine("move(0,1) send(1,2,0,a) recv(2,3,0,a) recv(3,4,0,b)");
        for (int t = 0; t < 4; t++) {
            for (int n = 1; n <= 4; n++) {
                Check.due("34 " + t + " as the last of " + n, x.isLast(t, n), t < 3 && n == t + 1);
            }
        }
        Check.refused(x, "34 none", ARGUMENT, () -> x.isLast(0, 0));
        Check.refused(x, "34 five", ARGUMENT, () -> x.isLast(0, 5));
        Check.refused(x, "34 no transition", INDEX, () -> x.isLast(4, 1));
        Check.refused(x, "34 both", INDEX, () -> x.isLast(4, 5));
        for (int far : FAR) {
            Check.refused(x, "34 transition", INDEX, () -> x.isLast(far, 1));
            Check.refused(x, "34 number", ARGUMENT, () -> x.isLast(0, far));
        }
        present(x, 2, "cabb", "");
        Check.due("34 with losses", x.isLast(2, 1), true);
        Check.due("34 with losses, then", x.isLast(3, 2), true);
        LossyChannels all = new LossyChannels();
        for (int t = 0; t < 9; t++) {
            all.addTransition(0, 0, 1, t % 2, t % 3);
        }
        all.addTransition(1, 1, 0, 0, 0);
        Check.due("34 many runs", all.isLast(8, 4), true);
        Check.due("34 not this one", all.isLast(9, 4), false);
    }

    private static void promise35() {
        LossyChannels x = new LossyChannels();
        for (int i = 0; i < 8; i++) {
            append(x, "move(0,1);");
        }
        Check.refused(x, "35 the buffer is full", STATE, () -> appended(x, ';'));
        Check.due("35 eighty characters", x.read(), 8);
        for (int i = 0; i < 80; i++) {
            x.append((char) (65535 - i));
        }
        Check.refused(x, "35 full of others", STATE, () -> appended(x, '\0'));
        Check.due("35 others are a fault", () -> x.read(), "throws " + ARGUMENT);
        Check.due("35 at the first one", x.faultPosition(), 0);
        append(x, "goal(0,,);");
        Check.due("35 emptied", x.read(), 1);
    }

    private static void promise36() {
        LossyChannels x = new LossyChannels();
        append(x, "send(0,5,1,c);recv(1,0,0,a);move(2,3);goal(4,abc,);goal(0,,bbbbbbbbbb);");
        Check.due("36 five commands", x.read(), 5);
        Check.due("36 transitions", Look.at(x).startsWith("0 5 1 1 2 1 0 2 0 0 2 3 0 -1 -1 | 0// |"), true);
        Check.due("36 goals", x.basis(0, 1, 1) + Look.bases(x).substring(0, 16), "30: 0 0 10; 4 3 0");
        Check.due("36 emptied", () -> x.read(), "throws " + ARGUMENT);
        Check.due("36 counted", x.clearGoals(), 2);
        x.fire(0);
        append(x, "move(2,3);goal(4,a,b);");
        Check.due("36 two commands", x.read(), 2);
        Check.due("36 steps stay", x.undo(), 0);
        append(x, "move(2,3);goal(4,a,b)");
        refusedRead(x, "36 fault", ARGUMENT, 21);
        append(x, "goal(0,,);goal(1,,);move(1,1);");
        Check.due("36 up to three goals", x.read(), 3);
        append(x, "move(2,3);goal(4,a,b);");
        refusedRead(x, "36 four goals", STATE, -1);
        for (int i = 0; i < 5; i++) {
            append(x, "move(0,0);");
        }
        Check.due("36 up to ten transitions", x.read(), 5);
        append(x, "recv(0,0,0,a);");
        refusedRead(x, "36 eleven transitions", STATE, -1);
        append(x, "recv(0,0,0,a);x");
        refusedRead(x, "36 eleven transitions and a fault", ARGUMENT, 14);
        Check.due("36 emptied at each", () -> x.read(), "throws " + ARGUMENT);
    }

    private static void refusedRead(LossyChannels x, String what, String exception, int fault) {
        String before = Look.at(x).replaceFirst("\\| -?\\d+ \\| [^|]*$", "");
        Check.due(what, () -> x.read(), "throws " + exception);
        Check.due(what + ", the position", x.faultPosition(), fault);
        Check.due(what + ", no command", Look.at(x).replaceFirst("\\| -?\\d+ \\| [^|]*$", ""), before);
    }

    private static final String[] FAULTS = {
        "", "0", ";", "0", " move(0,1);", "0", "Move(0,1);", "0", "1", "0", "(", "0", "\u00e9", "0", "\uffff", "0",
        "s", "0", "sen", "0", "sendd", "0", "sendx(0", "0", "mov(0,1);", "0", "goalmove(0,1);", "0", "seNd(0,1);", "0",
        "movez(0,1);", "0", "zend(0,1,0,a);", "0", "love(0,1);", "0", "sfnd(0,1,0,a);", "0", "rexv(0,1,0,a);", "0",
        "goad(0,,);", "0", "move)", "4", "move(0-", "6", "move(0,1*", "8", "move(0,1)<", "9", "move`", "4", "move{", "4",
        "send", "4", "send ", "4", "move1", "4", "goalX", "4", "move[", "4", "recv(", "5", "recv(6", "5", "recv(a", "5",
        "recv(-", "5", "recv(5", "6", "recv(5.", "6", "recv(5,", "7", "recv(5,6", "7", "recv(5,5)", "8", "recv(5,5,2", "9",
        "recv(5,5,1", "10", "recv(5,5,1,", "11", "recv(5,5,1,d", "11", "recv(5,5,1,0", "11", "recv(5,5,1,c", "12",
        "recv(5,5,1,cc", "12", "recv(5,5,1,c)", "13", "recv(5,5,1,c) ", "13", "recv(5,5,1,c),", "13", "move(0,1,", "8",
        "move(0,1)", "9", "move(0,1)m", "9", "move(00", "6", "move(0,1);;", "10", "move(0,1);m", "10",
        "move(0,1);move(", "15", "move(0,1);moves", "10", "move(0,1); ", "10", "move(0,1);Send", "10",
        "goal(0)", "6", "goal(0,", "7", "goal(0,)", "7", "goal(0,d", "7", "goal(0,aaaaaaaaaa", "17",
        "goal(0,aaaaaaaaaaa", "17", "goal(0,aaaaaaaaaa,", "18", "goal(0,aaaaaaaaaa,bbbbbbbbbbb", "28",
        "goal(0,,", "8", "goal(0,,,", "8", "goal(0,,cA", "9", "goal(0,,)", "9", "goal(0,,))", "9", "goal(6,,);", "5",
        "goal(0,,);send(1,1,1,a);recv(1,1,1,a);move(1,1)", "47",
        "move(0,1);", "-1", "send(0,1,0,a);", "-1", "recv(5,5,1,c);", "-1", "goal(0,,);", "-1",
        "goal(5,abcabcabca,cbacbacbac);", "-1",
    };

    private static void promise37() {
        Check.due("37 not read", new LossyChannels().faultPosition(), -1);
        LossyChannels still = new LossyChannels();
        append(still, "x");
        Check.due("37 not read yet", still.faultPosition(), -1);
        for (int i = 0; i < FAULTS.length; i += 2) {
            LossyChannels x = new LossyChannels();
            append(x, FAULTS[i]);
            int fault = Integer.parseInt(FAULTS[i + 1]);
            Check.due("37 read of " + FAULTS[i], () -> x.read(), fault < 0 ? 1 : "throws " + ARGUMENT);
            Check.due("37 fault of " + FAULTS[i], x.faultPosition(), fault);
            append(x, "move(0,");
            Check.due("37 the text appended is not read", x.faultPosition(), fault);
            append(x, "1);");
            Check.due("37 the next text", x.read(), 1);
            Check.due("37 has no fault", x.faultPosition(), -1);
        }
    }

    /** What an earlier text has left in the buffer is no part of a later one, and nothing is behind a full one. */
    private static void promise37Ends() {
        LossyChannels x = new LossyChannels();
        append(x, "sendd");
        Check.due("37 a longer text", () -> x.read(), "throws " + ARGUMENT);
        append(x, "send");
        Check.due("37 a shorter text", () -> x.read(), "throws " + ARGUMENT);
        Check.due("37 which ends too early", x.faultPosition(), 4);
        append(x, "move(0,1);");
        Check.due("37 a whole text", x.read(), 1);
        append(x, "move(0,1)");
        Check.due("37 a part of it", () -> x.read(), "throws " + ARGUMENT);
        Check.due("37 which also ends too early", x.faultPosition(), 9);
        append(x, "a".repeat(80));
        Check.due("37 eighty letters", () -> x.read(), "throws " + ARGUMENT);
        Check.due("37 which are no name", x.faultPosition(), 0);
        append(x, "goal(0,aaaaaaaaaa,bbbbbbbbbb);".repeat(2) + "goal(0,,ab);" + "move(0,0");
        Check.due("37 eighty characters", () -> x.read(), "throws " + ARGUMENT);
        Check.due("37 which end too early", x.faultPosition(), 80);
    }

    private static void promise38() {
        LossyChannels x = machine("send(0,1,0,a) goal(1,a,)");
        x.save();
        add(x, "move(1,1) goal(2,,)");
        x.fire(0);
        x.save();
        Check.due("38 steps stay", x.undo(), 0);
        x.removeTransition(0);
        x.clearGoals();
        x.restore();
        Check.due("38 in place of the earlier one", Look.at(x),
                "0 1 1 0 0 1 1 0 -1 -1 | 1/a/ | -1 | -1 | 0: 1 1 0; 2 0 0;1: 0 0 0; 1 1 0; 2 0 0; 0// 1/a/ 2//");
        append(x, "move(");
        x.save();
        append(x, "0,0);");
        Check.due("38 the text stays", x.read(), 1);
    }

    private static void promise39() {
        LossyChannels x = machine("move(0,1) goal(3,a,b)");
        Check.refused(x, "39 no snapshot", STATE, () -> restored(x));
        x.fire(0);
        Check.refused(x, "39 still none", STATE, () -> restored(x));
        Check.due("39 forgets nothing then", x.undo(), 0);
        present(x, 0, "cab", "bbb");
        x.save();
        String saved = Look.at(x);
        for (int i = 0; i < 2; i++) {
            add(x, "send(1,2,0,c) goal(1,,) recv(2,3,1,a)");
            Check.due("39 distance with others", x.distance(), 1);
            x.fire(0);
            x.lose(0, 1);
            x.restore();
            Check.due("39 restored", Look.at(x), saved);
            Check.due("39 steps are forgotten", () -> x.undo(), "throws " + STATE);
            Check.due("39 distance", x.distance(), -1);
        }
        x.fire(0);
        x.undo();
        x.lose(1, 0);
        x.undo();
        x.fire(0);
        x.undo();
        x.save();
        x.fire(0);
        x.undo();
        x.lose(0, 0);
        x.restore();
        Check.due("39 what is as saved", Look.at(x), saved);
        Check.due("39 forgets also", () -> x.undo(), "throws " + STATE);
        append(x, "?");
        Check.due("39 fault", () -> x.read(), "throws " + ARGUMENT);
        append(x, "mov");
        x.restore();
        Check.due("39 the fault position stays", x.faultPosition(), 0);
        append(x, "e(5,5);");
        Check.due("39 the text stays", x.read(), 1);
    }
}
