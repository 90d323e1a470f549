/** All that an object tells of itself, as one text. */
final class Snapshot {
    private Snapshot() {
    }

    static String of(Panyard x) {
        StringBuilder told = new StringBuilder("night " + x.night());
        for (int p = 0; hasPan(x, p); p++) {
            told.append("\npan ").append(p).append(x.isInTune(p));
            for (int f = 0; f < 4; f++) {
                for (int what = 0; what < 5; what++) {
                    told.append(' ').append(x.field(p, f, what));
                }
            }
        }
        for (int p = 0; hasPlayer(x, p); p++) {
            told.append("\nplayer ").append(p);
            for (int what = 0; what < 3; what++) {
                told.append(' ').append(x.ofPlayer(p, what));
            }
        }
        for (int b = 0; b < 4; b++) {
            tellBand(told, x, b);
        }
        return told.toString();
    }

    private static void tellBand(StringBuilder told, Panyard x, int b) {
        told.append("\nband ").append(b).append(" is at place ").append(x.rank(b));
        for (int what = 0; what < 5; what++) {
            told.append(' ').append(x.ofBand(b, what));
        }
        told.append(" leaps ").append(x.leaps(b)).append(" score ").append(score(x, b));
        for (int s = 0; s < x.ofBand(b, 0); s++) {
            told.append(" seat ").append(x.seat(b, s));
            for (int p = 0; p < x.ofBand(b, 2); p++) {
                told.append(' ').append(x.knows(b, s, p));
            }
        }
    }

    private static String score(Panyard x, int b) {
        try {
            return "" + x.score(b);
        } catch (IllegalStateException e) {
            return "none";
        }
    }

    private static boolean hasPan(Panyard x, int pan) {
        try {
            x.isInTune(pan);
            return true;
        } catch (IndexOutOfBoundsException e) {
            return false;
        }
    }

    private static boolean hasPlayer(Panyard x, int player) {
        try {
            x.ofPlayer(player, 0);
            return true;
        } catch (IndexOutOfBoundsException e) {
            return false;
        }
    }
}
