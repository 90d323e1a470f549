import java.util.ArrayList;
import java.util.Arrays;
import java.util.Comparator;
import java.util.HashMap;
import java.util.List;
import java.util.Map;

/** The document once more, written apart from Panyard, by trying all there is to try. */
final class Model {
    private final List<int[]> tones = new ArrayList<>();
    private final List<int[]> blows = new ArrayList<>();
    private final List<boolean[]> sunk = new ArrayList<>();
    private final List<Integer> layouts = new ArrayList<>();
    private final Map<Integer, Integer> panOfPlayer = new HashMap<>();
    private final Map<Integer, int[]> latestLeft = new HashMap<>();
    private final List<List<Integer>> seats = new ArrayList<>();
    private final List<List<int[]>> known = new ArrayList<>();
    private final List<List<Integer>> songs = new ArrayList<>();
    private final List<Map<Integer, Integer>> marks = new ArrayList<>();
    private final Integer[] heard = new Integer[4];
    private final int[] over = new int[4];
    private final int[] drilled = {-1, -1, -1, -1};
    private int degrees;
    private int night;

    Model() {
        for (int b = 0; b < 4; b++) {
            seats.add(new ArrayList<>());
            known.add(new ArrayList<>());
            songs.add(new ArrayList<>());
            marks.add(new HashMap<>());
        }
    }

    private static void index(boolean... met) {
        for (boolean one : met) {
            if (!one) {
                throw new IndexOutOfBoundsException();
            }
        }
    }

    private static void argument(boolean met) {
        if (!met) {
            throw new IllegalArgumentException();
        }
    }

    private static void state(boolean met) {
        if (!met) {
            throw new IllegalStateException();
        }
    }

    private static boolean in(int least, int value, int most) {
        return least <= value && value <= most;
    }

    private static boolean of(int value, int count) {
        return in(0, value, count - 1);
    }

    private int phrases(int band) {
        return songs.get(band).size() / 4;
    }

    int pan(int a, int b, int c, int d) {
        argument(in(-60, a, 60) && in(-60, b, 60) && in(-60, c, 60) && in(-60, d, 60));
        state(tones.size() < 6);
        tones.add(new int[] {a, b, c, d});
        blows.add(new int[4]);
        sunk.add(new boolean[4]);
        return tones.size() - 1;
    }

    int blow(int pan, int field, int force, boolean isSink) {
        index(of(pan, tones.size()), of(field, 4));
        argument(in(1, force, 4));
        state(blows.get(pan)[field] < 7);
        state(isSink || !sunk.get(pan)[field]);
        int[] tone = tones.get(pan);
        for (int f = 0; f < 4; f++) {
            if (f == field) {
                tone[f] += isSink ? -6 * force : 4 * force;
            } else if (Math.abs(f - field) != 2) {
                tone[f] += isSink ? force : -force;
            }
        }
        blows.get(pan)[field]++;
        if (isSink) {
            sunk.get(pan)[field] = true;
        }
        return tone[field];
    }

    int heat(int to) {
        argument(in(0, to, 15));
        int was = degrees;
        degrees = to;
        return was;
    }

    int field(int pan, int field, int what) {
        index(of(pan, tones.size()), of(field, 4));
        argument(in(0, what, 4));
        int tone = tones.get(pan)[field];
        int count = blows.get(pan)[field];
        return new int[] {tone, tone - degrees, count, sunk.get(pan)[field] ? 1 : 0,
            count >= 7 ? 1 : 0}[what];
    }

    int isInTune(int pan) {
        index(of(pan, tones.size()));
        return isTuned(pan) ? 1 : 0;
    }

    private boolean isTuned(int pan) {
        return Arrays.stream(tones.get(pan)).allMatch(t -> in(-5, t - degrees, 5))
                && Arrays.stream(blows.get(pan)).allMatch(b -> b < 7);
    }

    int plan(int pan, int place) {
        index(of(pan, tones.size()));
        argument(in(0, place, 3));
        int[] cents = Arrays.stream(tones.get(pan)).map(t -> t - degrees).toArray();
        int[] row = AllRows.planOf(cents, blows.get(pan), sunk.get(pan));
        if (row == null) {
            return -1;
        }
        return place == 0 ? row.length : place <= row.length ? row[place - 1] : -1;
    }

    int player(int layout) {
        argument(in(0, layout, 1));
        state(layouts.size() < 16);
        layouts.add(layout);
        return layouts.size() - 1;
    }

    private int bandsOf(int player) {
        return (int) seats.stream().filter(s -> s.contains(player)).count();
    }

    int join(int player, int band) {
        index(of(player, layouts.size()), of(band, 4));
        state(!seats.get(band).contains(player));
        state(bandsOf(player) < 2);
        state(seats.get(band).size() < 8);
        int[] left = latestLeft.get(player);
        state(left == null || left[0] == band || left[1] / 30 != night / 30);
        seats.get(band).add(player);
        known.get(band).add(new int[6]);
        return seats.get(band).size() - 1;
    }

    int leave(int player, int band) {
        index(of(player, layouts.size()), of(band, 4));
        int seat = seats.get(band).indexOf(player);
        state(seat >= 0);
        seats.get(band).remove(seat);
        known.get(band).remove(seat);
        latestLeft.put(player, new int[] {band, night});
        return seats.get(band).size();
    }

    int give(int player, int pan) {
        index(of(player, layouts.size()), of(pan, tones.size()));
        state(!panOfPlayer.containsKey(player) && !panOfPlayer.containsValue(pan));
        panOfPlayer.put(player, pan);
        return 0;
    }

    int takeBack(int player) {
        index(of(player, layouts.size()));
        state(panOfPlayer.containsKey(player));
        return panOfPlayer.remove(player);
    }

    int ofPlayer(int player, int what) {
        index(of(player, layouts.size()));
        argument(in(0, what, 2));
        return new int[] {layouts.get(player), bandsOf(player),
            panOfPlayer.getOrDefault(player, -1)}[what];
    }

    int note(int band, int note) {
        index(of(band, 4));
        argument(in(0, note, 11));
        state(songs.get(band).size() < 24);
        songs.get(band).add(note);
        return songs.get(band).size();
    }

    int change(int band, int place, int note) {
        index(of(band, 4));
        index(of(place, songs.get(band).size()));
        argument(in(0, note, 11));
        int was = songs.get(band).set(place, note);
        for (int[] seat : known.get(band)) {
            if (was != note && seat[place / 4] == 1) {
                seat[place / 4] = 2;
            }
        }
        return was;
    }

    int tell(int band, int seat, int phrase) {
        int was = knows(band, seat, phrase);
        known.get(band).get(seat)[phrase] = 1;
        return was;
    }

    int drill(int band, int phrase) {
        index(of(band, 4));
        index(of(phrase, phrases(band)));
        int count = seats.get(band).size();
        state(count > 0 && drilled[band] != night);
        drilled[band] = night;
        int[] before = known.get(band).stream().mapToInt(k -> k[phrase]).toArray();
        int right = 0;
        for (int s = 0; s < count; s++) {
            int now = before[s];
            boolean rightBelow = s > 0 && before[s - 1] == 1;
            boolean rightAbove = s < count - 1 && before[s + 1] == 1;
            if (now == 2 && rightBelow && rightAbove) {
                now = 1;
            } else if (now == 0) {
                now = s > 0 ? before[s - 1] : 0;
                now = now == 0 && s < count - 1 ? before[s + 1] : now;
                now = now == 1 && bandsOf(seats.get(band).get(s)) == 2 ? 2 : now;
            }
            known.get(band).get(s)[phrase] = now;
            right += now == 1 ? 1 : 0;
            Integer pan = panOfPlayer.get(seats.get(band).get(s));
            for (int f = 0; pan != null && f < 4; f++) {
                tones.get(pan)[f]--;
            }
        }
        return right;
    }

    int pass(int nights) {
        argument(in(1, nights, 30));
        state(night + nights <= 1000);
        return night += nights;
    }

    int seat(int band, int seat) {
        index(of(band, 4));
        index(of(seat, seats.get(band).size()));
        return seats.get(band).get(seat);
    }

    int knows(int band, int seat, int phrase) {
        index(of(band, 4));
        index(of(seat, seats.get(band).size()), of(phrase, phrases(band)));
        return known.get(band).get(seat)[phrase];
    }

    int ofBand(int band, int what) {
        index(of(band, 4));
        argument(in(0, what, 4));
        return new int[] {seats.get(band).size(), songs.get(band).size(), phrases(band),
            heard[band] == null ? -1 : heard[band], drilled[band] == night ? 1 : 0}[what];
    }

    private int leap(int seatOfBand, int band, int place) {
        int layout = layouts.get(seats.get(band).get(seatOfBand));
        int spot = 0;
        int from = spot(layout, songs.get(band).get(place));
        int to = spot(layout, songs.get(band).get(place + 1));
        while ((from + spot) % 12 != to && (to + spot) % 12 != from) {
            spot++;
        }
        return spot;
    }

    private static int spot(int layout, int note) {
        return layout == 0 ? 7 * note % 12 : 4 * (note % 3) + note / 3;
    }

    private int leapsOf(int band, int[] row) {
        int leaps = 0;
        for (int place = 0; place + 1 < 4 * row.length; place++) {
            int seat = row[place / 4];
            leaps += seat == row[(place + 1) / 4] ? leap(seat, band, place) : 2;
        }
        return leaps;
    }

    /** Every row of seats that know their phrase, in the order of the rows. */
    private void rows(int band, int without, int[] row, int phrase, List<int[]> found) {
        if (phrase == row.length) {
            found.add(row.clone());
            return;
        }
        for (int s = 0; s < seats.get(band).size(); s++) {
            if (s != without && known.get(band).get(s)[phrase] == 1) {
                row[phrase] = s;
                rows(band, without, row, phrase + 1, found);
            }
        }
    }

    private int[] best(int band, int without) {
        List<int[]> found = new ArrayList<>();
        if (phrases(band) > 0) {
            rows(band, without, new int[phrases(band)], 0, found);
        }
        return found.stream().min(Comparator.comparingInt(row -> leapsOf(band, row))).orElse(null);
    }

    int leaps(int band) {
        index(of(band, 4));
        int[] best = best(band, -1);
        return best == null ? -1 : leapsOf(band, best);
    }

    int part(int band, int phrase) {
        index(of(band, 4));
        index(of(phrase, phrases(band)));
        int[] best = best(band, -1);
        return best == null ? -1 : best[phrase];
    }

    int without(int band, int seat) {
        index(of(band, 4));
        index(of(seat, seats.get(band).size()));
        int[] best = best(band, seat);
        return best == null ? -1 : leapsOf(band, best);
    }

    int perform(int band, int minutes) {
        index(of(band, 4));
        argument(in(1, minutes, 30));
        state(heard[band] == null);
        int[] best = best(band, -1);
        state(best != null);
        int off = (int) Arrays.stream(best).distinct().filter(s -> {
            Integer pan = panOfPlayer.get(seats.get(band).get(s));
            return pan == null || !isTuned(pan);
        }).count();
        heard[band] = leapsOf(band, best) + 10 * off;
        over[band] = minutes > 10 ? 2 * minutes - 20 : 0;
        return heard[band];
    }

    int mark(int band, int judge, int mark) {
        index(of(band, 4), of(judge, 5));
        argument(in(0, mark, 100));
        state(heard[band] != null && !marks.get(band).containsKey(judge));
        marks.get(band).put(judge, mark);
        return marks.get(band).size();
    }

    int score(int band) {
        index(of(band, 4));
        state(marks.get(band).size() == 5);
        return marks.get(band).values().stream().sorted().skip(1).limit(3)
                .mapToInt(Integer::intValue).sum() - over[band];
    }

    int rank(int place) {
        index(of(place, 4));
        List<Integer> ranked = new ArrayList<>();
        for (int b = 0; b < 4; b++) {
            if (marks.get(b).size() == 5) {
                ranked.add(b);
            }
        }
        ranked.sort(Comparator.comparingInt((Integer b) -> -score(b))
                .thenComparingInt(b -> heard[b]));
        return place < ranked.size() ? ranked.get(place) : -1;
    }

    int night() {
        return night;
    }
}
