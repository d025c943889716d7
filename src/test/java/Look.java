/** What calls without effect tell of an object. */
final class Look {
    private Look() {
    }

    static String machine(Subject x) {
        StringBuilder seen = new StringBuilder();
        for (int t = 0; t < x.transitionCount(); t++) {
            seen.append(t == 0 ? "" : ", ").append(transition(x, t));
        }
        return seen.toString();
    }

    static String transition(Subject x, int t) {
        StringBuilder seen = new StringBuilder();
        for (int what = 0; what < 5; what++) {
            seen.append(what == 0 ? "" : " ").append(x.transition(t, what));
        }
        return seen.toString();
    }

    static String config(Subject x) {
        return x.state() + "/" + word(x, 0) + "/" + word(x, 1);
    }

    static String word(Subject x, int channel) {
        StringBuilder word = new StringBuilder();
        for (int i = 0; i < x.length(channel); i++) {
            word.append((char) ('a' + x.letter(channel, i)));
        }
        return word.toString();
    }

    /** The states and lengths of the basis of a round. */
    static String basis(Subject x, int round) {
        StringBuilder seen = new StringBuilder();
        for (int i = 0; i < x.basisSize(round); i++) {
            seen.append(i == 0 ? "" : ", ").append(x.basis(round, i, 0)).append(' ').append(x.basis(round, i, 1))
                    .append(' ').append(x.basis(round, i, 2));
        }
        return seen.toString();
    }

    static String bases(Subject x) {
        Object analysis = Check.answer(() -> x.analyze());
        if (!analysis.equals(1)) {
            return String.valueOf(analysis);
        }
        StringBuilder seen = new StringBuilder();
        for (int round = 0; round <= x.lastRound(); round++) {
            seen.append(round).append(": ").append(basis(x, round)).append("; ");
        }
        return seen.append(lastBasis(x)).toString();
    }

    /** The basis of the last round with its words. */
    static String lastBasis(Subject x) {
        StringBuilder seen = new StringBuilder();
        int last = x.lastRound();
        for (int i = 0; i < x.basisSize(last); i++) {
            seen.append(i == 0 ? "" : " ").append(x.basis(last, i, 0));
            for (int channel = 0; channel < 2; channel++) {
                seen.append('/');
                for (int place = 0; place < x.basis(last, i, 1 + channel); place++) {
                    seen.append((char) ('a' + x.basisLetter(i, channel, place)));
                }
            }
        }
        return seen.toString();
    }

    /** The covering run: each transition with the letters lost before it. */
    static String covering(Subject x) {
        StringBuilder seen = new StringBuilder();
        int distance = x.distance();
        for (int i = 0; i < distance; i++) {
            seen.append(i == 0 ? "" : " ").append(x.covering(i)).append('-').append(x.lost(i));
        }
        return seen.toString();
    }
}
