/** Machines whose analysis just succeeds or just fails, made by hand, as commands for Make. */
final class Machines {
    /** Each round takes a letter off the goal: the last round is 12, its basis state 0 with empty channels. */
    static final String TWELVE = "send(0,0,0,a) send(0,0,1,a) goal(0,aaaaaa,aaaaaa)";
    /** Ten rounds take letters off the goal, and two more lead to the states 1 and 2: the last round is 12. */
    static final String TWELVE_WITH_STATES = "send(0,0,0,a) move(1,0) move(2,1) goal(0,aaaaaaaaaa,)";
    /** One letter more, or one state more: with round 12, the analysis is not complete yet. */
    static final String THIRTEEN = "send(0,0,0,a) send(0,0,1,a) goal(0,aaaaaaa,aaaaaa)";
    static final String THIRTEEN_WITH_STATES = TWELVE_WITH_STATES + " move(3,2)";

    private static final String ALL_LETTERS = "recv(1,0,0,a) recv(1,0,0,b) recv(1,0,0,c)"
            + " recv(1,0,1,a) recv(1,0,1,b) recv(1,0,1,c)";
    /** Three goals with three predecessors by each of nine transitions: the bases have 3 and 30 configurations. */
    static final String THIRTY = ALL_LETTERS + " recv(2,0,0,a) recv(2,0,0,b) recv(2,0,0,c)"
            + " goal(0,aa,) goal(0,ab,) goal(0,ac,)";
    /** By the tenth transition, one more: state 3 with the word a, which is below the other two. */
    static final String THIRTY_ONE = THIRTY + " send(3,0,0,b)";

    /** Letters b are taken off a goal till it is below the others: the bases have 3, 24, 30, 28, 14 and 10. */
    static final String THIRTY_BETWEEN = "recv(1,0,0,a) recv(1,0,0,b) recv(1,0,0,c) recv(1,0,1,a) recv(1,0,1,b)"
            + " recv(2,0,0,a) recv(2,0,0,b) move(3,2) send(0,0,0,b) goal(0,bbb,) goal(0,aa,) goal(0,ac,)";
    /** The bases have 3, 27, 31, 15 and 11 configurations. */
    static final String THIRTY_ONE_BETWEEN = ALL_LETTERS + " recv(2,0,0,a) recv(2,0,0,b) move(3,2) send(0,0,0,b)"
            + " goal(0,bb,) goal(0,aa,) goal(0,ac,)";

    /**
     * Of three goals, 12 predecessors in state 1 come in round 1, and one in state 3. Of the former, 30 come in round 2 in
     * state 2, all of them above the one that comes of the latter, and 12 in state 4: 58 are minimal before the last
     * one comes. The bases have 3, 16 and 29 configurations.
     */
    static final String MANY_ABOVE_ONE = "recv(1,0,0,b) recv(1,0,0,c) recv(1,0,1,b) recv(1,0,1,c)"
            + " recv(2,1,0,b) recv(2,1,0,c) recv(2,1,1,b) send(3,0,0,b) move(2,3) move(4,1)"
            + " goal(0,aa,) goal(0,ab,) goal(0,ac,)";

    private static final String EXCHANGE = "send(4,5,1,a) recv(5,4,0,a) goal(5,b,aaaaaa) goal(5,c,aaaa)";
    /**
     * In turn, a letter a is taken off channel 1 and one is put into channel 0: each of the rounds 1 to 12 adds a
     * configuration, the last round is 12, and its basis has 30, behind 29 of round 11.
     */
    static final String THIRTY_LAST = EXCHANGE + " goal(4,bb,aaa)";
    /** The same with 30 in round 11 and 31 in round 12. */
    static final String THIRTY_ONE_LAST = EXCHANGE + " goal(5,bb,aaaa)";

    private Machines() {
    }
}
