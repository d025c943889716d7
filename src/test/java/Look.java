/** Everything that calls without effect tell of an object. */
final class Look {
    private Look() {
    }

    static String at(LossyChannels x) {
        StringBuilder seen = new StringBuilder();
        for (int t = 0; t < x.transitionCount(); t++) {
            for (int what = 0; what < 5; what++) {
                seen.append(x.transition(t, what)).append(' ');
            }
        }
        seen.append("| ").append(config(x)).append(" | ").append(x.increase());
        seen.append(" | ").append(x.faultPosition()).append(" | ").append(bases(x));
        return seen.toString();
    }

    static String config(LossyChannels x) {
        return x.state() + "/" + word(x, 0) + "/" + word(x, 1);
    }

    static String word(LossyChannels x, int channel) {
        StringBuilder word = new StringBuilder();
        for (int i = 0; i < x.length(channel); i++) {
            word.append((char) ('a' + x.letter(channel, i)));
        }
        return word.toString();
    }

    static String bases(LossyChannels x) {
        Object analysis = Check.answer(() -> x.analyze());
        if (!analysis.equals(1)) {
            return String.valueOf(analysis);
        }
        StringBuilder seen = new StringBuilder();
        for (int round = 0; round <= x.lastRound(); round++) {
            seen.append(round).append(':');
            for (int i = 0; i < x.basisSize(round); i++) {
                for (int what = 0; what < 3; what++) {
                    seen.append(' ').append(x.basis(round, i, what));
                }
                seen.append(';');
            }
        }
        return seen.append(lastBasis(x)).toString();
    }

    static String lastBasis(LossyChannels x) {
        StringBuilder seen = new StringBuilder();
        int last = x.lastRound();
        for (int i = 0; i < x.basisSize(last); i++) {
            seen.append(' ').append(x.basis(last, i, 0));
            for (int channel = 0; channel < 2; channel++) {
                seen.append('/');
                for (int place = 0; place < x.basis(last, i, 1 + channel); place++) {
                    seen.append((char) ('a' + x.basisLetter(i, channel, place)));
                }
            }
        }
        return seen.toString();
    }
}
