import java.util.List;
import java.util.function.Function;
import java.util.function.Supplier;

/**
 * Ways to ask an object for all that it holds, what no call tells straight away too: how a call
 * would go. Each uses its object up, and needs few enough of the 512 calls that an object has.
 */
final class Probes {
    static final List<Function<Panyard, String>> ALL = List.of(Probes::ofPans,
            x -> ofPlayers(x, 0), x -> ofPlayers(x, 3), x -> ofBand(x, 0), x -> ofBand(x, 1),
            x -> ofBand(x, 2), x -> ofBand(x, 3));

    private Probes() {
    }

    private static String answer(Supplier<Object> call) {
        try {
            return call.get() + " ";
        } catch (RuntimeException e) {
            return e.getClass().getSimpleName() + " ";
        }
    }

    private static boolean isAnswered(Supplier<Object> call) {
        return !answer(call).contains("Exception");
    }

    private static String ofPans(Panyard x) {
        StringBuilder told = new StringBuilder();
        for (int p = 0; p < 6; p++) {
            int pan = p;
            told.append("\npan ").append(answer(() -> x.isInTune(pan)));
            for (int i = 0; isAnswered(() -> x.isInTune(pan)) && i < 24; i++) {
                told.append(i < 20 ? x.field(p, i / 5, i % 5) : x.plan(p, i - 20)).append(' ');
            }
        }
        told.append("\nheat ").append(x.heat(0)).append(", night ").append(x.night());
        told.append("\nnext ").append(answer(() -> x.pan(0, 0, 0, 0)));
        return told.append(answer(() -> x.pass(1))).toString();
    }

    /** Who may join what, from that band on upward or downward, and what pan may be given. */
    private static String ofPlayers(Panyard x, int firstBand) {
        StringBuilder told = new StringBuilder();
        for (int p = 0; p < 16; p++) {
            int player = p;
            told.append("\nplayer ").append(answer(() -> x.ofPlayer(player, 0)))
                    .append(answer(() -> x.ofPlayer(player, 1)))
                    .append(answer(() -> x.ofPlayer(player, 2)));
            for (int b = 0; b < 4; b++) {
                int band = Math.abs(firstBand - b);
                told.append(answer(() -> x.join(player, band)));
            }
        }
        for (int i = 0; i < 96; i++) {
            int turn = i;
            told.append(answer(() -> given(x, turn / 6, turn % 6)));
        }
        return told.append(answer(() -> x.player(0))).toString();
    }

    private static int given(Panyard x, int player, int pan) {
        x.give(player, pan);
        return x.takeBack(player);
    }

    private static String ofBand(Panyard x, int band) {
        StringBuilder told = new StringBuilder("\nband ").append(x.leaps(band));
        for (int what = 0; what < 5; what++) {
            told.append(' ').append(x.ofBand(band, what));
        }
        for (int p = 0; p < x.ofBand(band, 2); p++) {
            told.append(' ').append(x.part(band, p));
        }
        for (int s = 0; s < x.ofBand(band, 0); s++) {
            told.append("\nseat ").append(x.seat(band, s)).append(x.without(band, s));
            for (int p = 0; p < x.ofBand(band, 2); p++) {
                told.append(' ').append(x.knows(band, s, p));
            }
        }
        told.append("\ndrills ").append(answer(() -> x.drill(band, 0)));
        return told.append(nightOf(x, band)).append(songOf(x, band)).toString();
    }

    private static String songOf(Panyard x, int band) {
        StringBuilder told = new StringBuilder("\nsong ");
        for (int n = x.ofBand(band, 1) - 1; n >= 0; n--) {
            told.append(x.change(band, n, 0)).append(' ');
        }
        return told.append(answer(() -> x.note(band, 0))).toString();
    }

    private static String nightOf(Panyard x, int band) {
        StringBuilder told = new StringBuilder("\nranks ");
        for (int place = 0; place < 4; place++) {
            told.append(x.rank(place)).append(' ');
        }
        // a refused call is asked for last: it might set once more what one before has set
        if (x.ofBand(band, 3) == Panyard.NONE) {
            told.append(answer(() -> x.perform(band, 17)));
        }
        return told.append(marksOf(x, band)).append(answer(() -> x.perform(band, 18))).toString();
    }

    private static String marksOf(Panyard x, int band) {
        StringBuilder told = new StringBuilder(answer(() -> x.score(band)));
        for (int j = 0; j < 5; j++) {
            int judge = j;
            told.append(answer(() -> x.mark(band, judge, 11 * judge)));
        }
        return told.append(answer(() -> x.score(band))).toString();
    }
}
