/** Runs: the paragraphs on runs and covering runs, and promises 30 to 34. */
final class CoveringSentences extends Sentences {
    private CoveringSentences() {
    }

    static void run() {
        losses();
        anyLength();
        covers();
        distances();
        leastSequence();
        necessaryLosses();
        distanceOfNothing();
        distance();
        covering();
        lost();
        statesAfter();
        isLast();
    }

    private static void losses() {
        holds("Runs", "A run is a finite sequence of firings, before and after each of which any losses can happen.", () -> {
            Subject x = Make.machine("recv(0,1,0,a) recv(1,2,0,a) recv(2,3,1,b)", 0, "bbacccaccc", "cccccccccb");
            due("before the first firing", x.statesAfter(1), 2);
            due("between two firings", x.statesAfter(2), 4);
            due("in the other channel", x.statesAfter(3), 8);
            due("no run is longer", x.statesAfter(4), 0);
            due("without firings", x.statesAfter(0), 1);
            Subject y = Make.machine("move(0,1) goal(1,b,b)", 0, "abc", "cba");
            due("behind the last firing", y.distance(), 1);
            Make.present(y, 1, "abc", "cba");
            due("without firings, a goal below", y.distance(), 0);
        });
        holds("In doubt", "Words may have any length in states and runs that are asked for, and losses before a firing are "
                + "any.", () -> {
            Subject x = Make.machine("send(0,1,0,a) send(1,2,0,a) send(2,3,0,a) send(3,4,0,b)", 0, "cccccccccc", "");
            due("eleven letters", x.statesAfter(1), 2);
            due("fourteen letters", x.statesAfter(4), 16);
            due("fourteen letters, the last firing", x.isLast(3, 4), true);
            Subject y = Make.machine("send(0,1,0,b) send(1,2,0,a) recv(2,3,0,a) recv(2,4,0,b)", 0, "cccccccccc", "");
            due("eleven letters are lost", y.isLast(2, 3), true);
            due("ten letters are lost", y.isLast(3, 3), true);
            due("all states", y.statesAfter(3), 24);
        });
    }

    private static void anyLength() {
        holds("Runs", "In runs, the words can have any length.", () -> {
            Subject x = Make.machine("send(0,1,0,a) recv(1,2,0,c) goal(2,ccccccccca,)", 0, "cccccccccc", "");
            due("eleven letters on the way", Look.covering(x), "0-0 1-0");
            Subject y = Make.machine("send(0,0,1,a) recv(0,1,1,b) goal(1,,aaaaaaaaaa)", 0, "", "bbbbbbbbbb");
            due("twenty letters on the way", Look.covering(y), "0-0 0-0 0-0 0-0 0-0 0-0 0-0 0-0 0-0 0-0 1-0");
        });
    }

    private static void covers() {
        holds("Runs", "A run with n firings covers a goal if it leads from a configuration to one that the goal is below.", () -> {
            Subject x = Make.machine("recv(0,1,0,a) goal(1,b,c)", 0, "ab", "c");
            due("the goal itself", x.distance(), 1);
            Make.present(x, 0, "acbaaaaaaa", "bbbbbbbbbc");
            due("one above it", x.distance(), 1);
            Make.present(x, 0, "ba", "c");
            due("the letter of the goal is lost before", x.distance(), -1);
            Make.present(x, 0, "ab", "");
            due("a letter is missing", x.distance(), -1);
            Subject y = Make.machine("move(0,1) move(1,2) goal(2,a,) goal(1,b,) goal(1,,c)");
            Make.present(y, 0, "a", "");
            due("one of three goals", y.distance(), 2);
            y.put(1, 2);
            due("another one, which is nearer", y.distance(), 1);
        });
    }

    private static void distances() {
        holds("Covering runs", "The distance of a configuration is the least number of firings of a run from it that covers a "
                + "goal.", () -> {
            Subject x = Make.machine("move(0,1) move(1,2) move(2,3) move(0,3) goal(3,,)");
            due("the shorter of two", x.distance(), 1);
            x.removeTransition(3);
            due("the only one", x.distance(), 3);
            x.setState(3);
            due("none is needed", x.distance(), 0);
            Subject y = Make.machine("send(0,0,0,a) recv(0,1,0,a) recv(0,1,0,b) goal(1,,)", 0, "cccccccccc", "");
            due("a letter must be sent first", y.distance(), 2);
            y.clear(0);
            y.put(0, 1);
            due("a letter is there", y.distance(), 1);
        });
    }

    private static void leastSequence() {
        String sentence = "The covering run of the present configuration has this number of firings; of several possible "
                + "sequences of transitions, it is the lexicographically least one.";
        holds("Covering runs", sentence, () -> {
            due("two equal transitions", Look.covering(Make.machine("move(0,1) move(0,1) goal(1,,)")), "0-0");
            due("two ways", Look.covering(Make.machine("move(1,3) move(2,3) move(0,2) move(0,1) goal(3,,)")), "2-0 1-0");
            due("the least second one", Look.covering(Make.machine("move(0,1) move(1,2) move(1,2) goal(2,,)")), "0-0 1-0");
            due("a loop before it is longer", Look.covering(Make.machine("move(0,0) move(0,1) goal(1,,)")), "1-0");
            due("a longer way is less", Look.covering(Make.machine("move(0,1) move(1,2) move(0,2) goal(2,,)")), "2-0");
            due("a way to nowhere is less", Look.covering(Make.machine("move(0,5) move(0,1) move(1,2) goal(2,,)")), "1-0 2-0");
            due("to another goal", Look.covering(Make.machine("move(0,2) move(0,1) goal(1,,) goal(2,,)")), "0-0");
        });
        holds("Covering runs", sentence, () -> {
            Subject x = Make.machine("recv(0,1,0,b) recv(0,1,0,a) recv(1,2,0,b) goal(2,,)", 0, "ab", "");
            due("the least one loses too much", Look.covering(x), "1-0 2-0");
            x.put(0, 1);
            due("with another letter, it does not", Look.covering(x), "0-1 2-0");
            Subject y = Make.machine("send(0,0,1,a) send(0,0,0,a) goal(0,aa,aa)");
            due("all orders are possible", Look.covering(y), "0-0 0-0 1-0 1-0");
            Subject z = Make.machine("move(1,1) move(2,2) move(3,3) move(4,4) move(5,5) move(0,1) move(1,2) move(2,3) move(3,4)"
                    + " move(4,5) goal(5,,)");
            due("the last ones of ten transitions", Look.covering(z), "5-0 6-0 7-0 8-0 9-0");
        });
    }

    private static void necessaryLosses() {
        holds("Covering runs", "For each firing, only the losses that are necessary happen: before receiving a letter, all "
                + "letters of its channel before the first occurrence of this letter are lost, and nothing else is lost.", () -> {
            Subject x = Make.machine("recv(0,1,0,a) goal(1,,)", 0, "abbbbbbbbb", "");
            due("it is the first letter", Look.covering(x), "0-0");
            Make.present(x, 0, "bbbbbbbbba", "bbb");
            due("it is the tenth letter", Look.covering(x), "0-9");
            Make.present(x, 0, "bcaaa", "");
            due("the first of several", Look.covering(x), "0-2");
            Subject y = Make.machine("recv(0,1,1,c) send(1,2,1,c) recv(2,3,1,b) move(3,4) goal(4,,)", 0, "aaa", "aacabb");
            due("sending and doing nothing lose nothing", Look.covering(y), "0-2 1-0 2-1 3-0");
            Subject z = Make.machine("send(0,1,0,b) send(1,2,0,a) recv(2,3,0,a) goal(3,,)", 0, "cccccccccc", "");
            due("eleven letters", Look.covering(z), "0-0 1-0 2-11");
            due("the present configuration is as it was", Look.config(z), "0/cccccccccc/");
        });
    }

    private static void distanceOfNothing() {
        String sentence = "A distance of 0 has no firing and no losses; letters that are lost behind the last firing are told "
                + "by none.";
        holds("In doubt", sentence, () -> {
            Subject x = Make.machine("move(0,0) goal(0,a,)", 0, "bab", "c");
            due("distance", x.distance(), 0);
            due("firing", () -> x.covering(0), ELEMENT);
            due("losses", () -> x.lost(0), ELEMENT);
        });
        holds("In doubt", sentence, () -> {
            Subject x = Make.machine("recv(0,1,0,a) goal(1,b,)", 0, "cacbc", "aaa");
            due("the losses before the firing alone", x.lost(0), 1);
            due("behind it", () -> x.lost(1), ELEMENT);
        });
    }

    private static void distance() {
        holds("Promise 30", "Returns the distance of the present configuration.", () -> {
            Subject x = Make.machine("recv(0,1,0,a) recv(1,2,0,b) goal(2,c,)", 0, "cabbac", "a");
            due("two", x.distance(), 2);
            Make.present(x, 1, "cabbac", "a");
            due("one", x.distance(), 1);
            Make.present(x, 2, "cabbac", "a");
            due("none", x.distance(), 0);
            Subject y = Make.machine(Machines.TWELVE);
            due("the greatest one", y.distance(), 12);
            Subject z = Make.machine(Machines.TWELVE_WITH_STATES);
            z.setState(2);
            due("the greatest one, through states", z.distance(), 12);
            z.setState(1);
            due("one less", z.distance(), 11);
        });
        holds("Promise 30", "Returns the distance, or -1 if no run from it covers a goal.", () -> {
            Subject x = Make.machine("recv(0,1,0,a) goal(1,,)", 0, "bbbbbbbbbb", "aaaaaaaaaa");
            due("no letter to receive", x.distance(), -1);
            x.clear(0);
            due("no letter at all", x.distance(), -1);
            x.setState(1);
            due("no firing is needed", x.distance(), 0);
            x.setState(5);
            due("no transition", x.distance(), -1);
        });
    }

    private static void covering() {
        holds("Promise 31", "Returns a transition of the covering run of the present configuration.", () -> {
            Subject x = Make.machine("move(0,5) recv(0,1,0,b) recv(0,1,0,a) send(1,2,1,c) move(1,2) goal(2,b,)", 0, "cbab", "");
            due("the first one", x.covering(0), 1);
            due("the second one", x.covering(1), 3);
            Make.present(x, 0, "ab", "");
            due("of another configuration", x.covering(0), 2);
        });
        holds("Promise 31", "index: the index of the firing, from 0", () -> {
            Subject x = Make.machine(Machines.TWELVE);
            due("index -1", () -> x.covering(-1), ELEMENT);
            for (int index = 0; index < 12; index++) {
                due("index " + index, x.covering(index), index / 6);
            }
            due("index 12", () -> x.covering(12), ELEMENT);
            x.setState(1);
            due("index 0 of no run", () -> x.covering(0), ELEMENT);
        });
        holds("Promise 31", "Returns the transition.", () -> {
            Subject x = Make.machine("move(1,2) move(0,1) goal(2,,)");
            due("its number", x.covering(0) + " " + x.covering(1), "1 0");
            x.removeTransition(0);
            x.addTransition(1, 2, 0, 0, 0);
            due("its new number", x.covering(0) + " " + x.covering(1), "0 1");
        });
    }

    private static void lost() {
        holds("Promise 32", "Returns the number of letters that are lost in the covering run of the present configuration before "
                + "a firing and after the one before it.", () -> {
            Subject x = Make.machine("recv(0,1,0,a) send(1,2,0,c) recv(2,3,0,c) recv(3,4,1,b) goal(4,,)", 0, "bcabb", "aaaab");
            int[] lost = {2, 0, 2, 4};
            for (int i = 0; i < 4; i++) {
                due("firing " + i, x.lost(i), lost[i]);
            }
        });
        holds("Promise 32", "index: the index of the firing, from 0", () -> {
            Subject x = Make.machine(Machines.TWELVE);
            due("index -1", () -> x.lost(-1), ELEMENT);
            due("index 0", x.lost(0), 0);
            due("index 11", x.lost(11), 0);
            due("index 12", () -> x.lost(12), ELEMENT);
            x.setState(1);
            due("index 0 of no run", () -> x.lost(0), ELEMENT);
        });
        holds("Promise 32", "Returns the number of letters.", () -> {
            Subject x = Make.machine("recv(0,1,1,c) goal(1,,)", 0, "", "c");
            for (int letters = 0; letters < 10; letters++) {
                Make.present(x, 0, "", "bbbbbbbbb".substring(9 - letters) + "c");
                due("letters", x.lost(0), letters);
            }
        });
    }

    private static void statesAfter() {
        holds("Promise 33", "Returns the states that are reached by runs with a number of firings from the present "
                + "configuration.", () -> {
            Subject x = Make.machine("recv(2,3,0,a) recv(3,4,0,b) recv(2,5,0,b)", 2, "cab", "");
            due("one firing", x.statesAfter(1), 8 | 32);
            due("two firings, which end elsewhere", x.statesAfter(2), 16);
            Make.present(x, 2, "cba", "");
            due("no b behind the a", x.statesAfter(2), 0);
            due("nothing has changed", Look.config(x), "2/cba/");
        });
        holds("Promise 33", "firings: the number of firings, 0 to 4", () -> {
            Subject x = Make.machine("move(0,1) move(1,2) move(2,3) move(3,4) move(4,5)");
            due("-1", () -> x.statesAfter(-1), ARGUMENT);
            for (int firings = 0; firings <= 4; firings++) {
                due("firings " + firings, x.statesAfter(firings), 1 << firings);
            }
            due("5", () -> x.statesAfter(5), ARGUMENT);
            Subject y = new Subject();
            y.setState(5);
            due("0 without transitions", y.statesAfter(0), 32);
            due("1 without transitions", y.statesAfter(1), 0);
            due("4 without transitions", y.statesAfter(4), 0);
        });
        holds("Promise 33", "Returns the set of states.", () -> {
            Subject x = new Subject();
            for (int t = 0; t < 10; t++) {
                x.addTransition(0, t < 4 ? 0 : t - 4, 1, t % 2, t % 3);
            }
            for (int firings = 1; firings <= 4; firings++) {
                due("all", x.statesAfter(firings), 63);
            }
            due("the present one", x.statesAfter(0), 1);
        });
        holds("Promise 33", "Returns the set of states.", () -> {
            Subject x = new Subject();
            for (int t = 0; t < 9; t++) {
                x.addTransition(0, 0, 1, t % 2, t % 3);
            }
            x.addTransition(0, 5, 2, 0, 2);
            due("behind the last of all sequences", x.statesAfter(4), 33);
            Subject y = new Subject();
            for (int t = 0; t < 10; t++) {
                y.addTransition(t == 9 ? 1 : 0, t == 8 ? 1 : t == 9 ? 5 : 0, t == 9 ? 2 : 1, 0, t == 7 || t == 9 ? 2 : 0);
            }
            due("a letter that one of ten transitions sends", y.statesAfter(3), 1 | 2 | 32);
        });
    }

    private static void isLast() {
        holds("Promise 34", "Returns whether a run from the present configuration with a number of firings has a transition as "
                + "its last firing.", () -> {
            Subject x = Make.machine("move(0,1) send(1,2,0,a) recv(2,3,0,a) recv(3,4,0,b)");
            for (int t = 0; t < 4; t++) {
                for (int firings = 1; firings <= 4; firings++) {
                    due(t + " as the last of " + firings, x.isLast(t, firings), t < 3 && firings == t + 1);
                }
            }
            x.put(0, 1);
            due("the b is lost before the a", x.isLast(3, 4), false);
            x.setState(3);
            due("a letter is there", x.isLast(3, 1), true);
        });
        holds("Promise 34", "firings: the number of firings of the run, 1 to 4", () -> {
            Subject x = Make.machine("move(0,1) move(1,2) move(2,3) move(3,4) move(4,5)");
            due("0", () -> x.isLast(0, 0), ARGUMENT);
            due("1", x.isLast(0, 1), true);
            due("4", x.isLast(3, 4), true);
            due("4, the fifth one", x.isLast(4, 4), false);
            due("5", () -> x.isLast(4, 5), ARGUMENT);
        });
        holds("Promise 34", "Returns whether there is such a run.", () -> {
            Subject x = new Subject();
            for (int t = 0; t < 9; t++) {
                x.addTransition(0, 0, 1, t % 2, t % 3);
            }
            x.addTransition(0, 0, 2, 1, 2);
            due("the tenth, of no letter", x.isLast(9, 1), false);
            due("the tenth, of a letter that is sent before", x.isLast(9, 2), true);
            due("the tenth of four", x.isLast(9, 4), true);
            due("the first of four", x.isLast(0, 4), true);
            x.removeTransition(5);
            due("if the letter is sent no more", x.isLast(8, 4), false);
        });
    }
}
