import java.util.ArrayList;
import java.util.Arrays;

/** Bands of steel, from the pans that are tuned to the night on which all are ranked. */
public final class Panyard {
    public static final int NONE = -1;
    public static final int FIFTHS = 0, OLD = 1;
    public static final int UNKNOWN = 0, RIGHT = 1, WRONG = 2;

    private static final int MOST_PANS = 6, FIELDS = 4, MOST_TONE = 60;
    private static final int MOST_FORCE = 4, MOST_BLOWS = 6, MOST_HEAT = 15;
    private static final int RAISES = 4, SINKS = 6, MOST_CENTS = 5;
    private static final int MOST_PLAN = 3, BLOW_NUMBERS = 32;
    private static final int MOST_PLAYERS = 16, MOST_BANDS_OF_ONE = 2;
    private static final int BANDS = 4, MOST_SEATS = 8;
    private static final int NIGHTS_OF_SEASON = 30, MOST_NIGHTS = 30, LAST_NIGHT = 1000;
    private static final int NOTES = 12, MOST_NOTES = 24, PHRASE = 4, MOST_PHRASES = 6;
    private static final int OTHER_SEAT_LEAPS = 2, NO_PAN_LEAPS = 10;
    private static final int MOST_MINUTES = 30, FREE_MINUTES = 10, OVER_A_MINUTE = 2;
    private static final int JUDGES = 5, MOST_MARK = 100;

    private final ArrayList<Pan> pans = new ArrayList<>();
    private final ArrayList<Player> players = new ArrayList<>();
    private final ArrayList<Band> bands = new ArrayList<>();
    private final Planner planner = new Planner();
    private final Parts parts = new Parts();
    private int degreesNow;
    private int nightNow;

    public Panyard() {
        for (int b = 0; b < BANDS; b++) {
            bands.add(new Band());
        }
    }

    // ---- pans

    public int pan(int first, int second, int third, int fourth)
            throws IllegalArgumentException, IllegalStateException {
        requireRange(first, -MOST_TONE, MOST_TONE);
        requireRange(second, -MOST_TONE, MOST_TONE);
        requireRange(third, -MOST_TONE, MOST_TONE);
        requireRange(fourth, -MOST_TONE, MOST_TONE);
        requireState(pans.size() < MOST_PANS);
        Pan made = new Pan(pans.size());
        made.tones[0] = first;
        made.tones[1] = second;
        made.tones[2] = third;
        made.tones[3] = fourth;
        pans.add(made);
        return made.number;
    }

    public int blow(int pan, int field, int force, boolean isSink)
            throws IndexOutOfBoundsException, IllegalArgumentException, IllegalStateException {
        Pan beaten = panAt(pan);
        requireIndex(field, FIELDS);
        requireRange(force, 1, MOST_FORCE);
        requireState(beaten.bears(field, isSink));
        beaten.beat(field, force, isSink);
        return beaten.tones[field];
    }

    public int heat(int degrees) throws IllegalArgumentException {
        requireRange(degrees, 0, MOST_HEAT);
        int before = degreesNow;
        degreesNow = degrees;
        return before;
    }

    public int field(int pan, int field, int what)
            throws IndexOutOfBoundsException, IllegalArgumentException {
        Pan asked = panAt(pan);
        requireIndex(field, FIELDS);
        requireRange(what, 0, 4);
        switch (what) {
            case 0:
                return asked.tones[field];
            case 1:
                return asked.tones[field] - degreesNow;
            case 2:
                return asked.blows[field];
            case 3:
                return asked.sunk[field] ? 1 : 0;
            default:
                return asked.isCracked(field) ? 1 : 0;
        }
    }

    public boolean isInTune(int pan) throws IndexOutOfBoundsException {
        return panAt(pan).isTunable(degreesNow, 0);
    }

    public int plan(int pan, int place)
            throws IndexOutOfBoundsException, IllegalArgumentException {
        Pan asked = panAt(pan);
        requireRange(place, 0, MOST_PLAN);
        int length = planner.findRow(asked, degreesNow);
        if (place == 0) {
            return length;
        }
        return place <= length ? planner.row[place - 1] : NONE;
    }

    // ---- players, bands

    public int player(int layout) throws IllegalArgumentException, IllegalStateException {
        requireRange(layout, FIFTHS, OLD);
        requireState(players.size() < MOST_PLAYERS);
        Player come = new Player(players.size(), layout);
        players.add(come);
        return come.number;
    }

    public int join(int player, int band)
            throws IndexOutOfBoundsException, IllegalStateException {
        Player joiner = playerAt(player);
        Band joined = bandAt(band);
        requireState(joined.seatOf(joiner) == NONE && joiner.bandCount < MOST_BANDS_OF_ONE);
        requireState(joined.seats.size() < MOST_SEATS);
        requireState(joiner.mayJoin(band, seasonNow()));
        joined.seats.add(new Seat(joiner));
        joiner.bandCount++;
        return joined.seats.size() - 1;
    }

    public int leave(int player, int band)
            throws IndexOutOfBoundsException, IllegalStateException {
        Player leaver = playerAt(player);
        Band left = bandAt(band);
        int seat = left.seatOf(leaver);
        requireState(seat >= 0 && seat < left.seats.size());
        left.seats.remove(seat);
        leaver.bandCount--;
        leaver.leftBand = band;
        leaver.leftSeason = seasonNow();
        return left.seats.size();
    }

    public void give(int player, int pan)
            throws IndexOutOfBoundsException, IllegalStateException {
        Player owner = playerAt(player);
        Pan given = panAt(pan);
        requireState(owner.pan == null && !given.isGiven);
        owner.pan = given;
        given.isGiven = true;
    }

    public int takeBack(int player) throws IndexOutOfBoundsException, IllegalStateException {
        Player owner = playerAt(player);
        Pan taken = owner.pan;
        if (taken == null) {
            throw new IllegalStateException("the player has no pan");
        }
        owner.pan = null;
        taken.isGiven = false;
        return taken.number;
    }

    public int ofPlayer(int player, int what)
            throws IndexOutOfBoundsException, IllegalArgumentException {
        Player asked = playerAt(player);
        requireRange(what, 0, 2);
        if (what == 0) {
            return asked.layout;
        }
        if (what == 1) {
            return asked.bandCount;
        }
        return asked.pan == null ? NONE : asked.pan.number;
    }

    // ---- songs, nights

    public int note(int band, int note)
            throws IndexOutOfBoundsException, IllegalArgumentException, IllegalStateException {
        Band taught = bandAt(band);
        requireRange(note, 0, NOTES - 1);
        requireState(taught.noteCount < MOST_NOTES);
        taught.song[taught.noteCount] = note;
        taught.noteCount++;
        return taught.noteCount;
    }

    public int change(int band, int place, int note)
            throws IndexOutOfBoundsException, IllegalArgumentException {
        Band changed = bandAt(band);
        requireIndex(place, changed.noteCount);
        requireRange(note, 0, NOTES - 1);
        int before = changed.song[place];
        if (note != before) {
            changed.song[place] = note;
            changed.spoilPhrase(place / PHRASE);
        }
        return before;
    }

    public int tell(int band, int seat, int phrase) throws IndexOutOfBoundsException {
        Seat told = seatAt(bandAt(band), seat);
        requirePhrase(bandAt(band), phrase);
        int before = told.known[phrase];
        told.known[phrase] = RIGHT;
        return before;
    }

    public int drill(int band, int phrase)
            throws IndexOutOfBoundsException, IllegalStateException {
        Band drilled = bandAt(band);
        requirePhrase(drilled, phrase);
        requireState(!drilled.seats.isEmpty() && drilled.drillNight != nightNow);
        drilled.learnPhrase(phrase);
        drilled.wearPans();
        drilled.drillNight = nightNow;
        return drilled.countRight(phrase);
    }

    public int pass(int nights) throws IllegalArgumentException, IllegalStateException {
        requireRange(nights, 1, MOST_NIGHTS);
        requireState(nightNow + nights <= LAST_NIGHT);
        nightNow += nights;
        return nightNow;
    }

    public int seat(int band, int seat) throws IndexOutOfBoundsException {
        return seatAt(bandAt(band), seat).player.number;
    }

    public int knows(int band, int seat, int phrase) throws IndexOutOfBoundsException {
        Seat asked = seatAt(bandAt(band), seat);
        requirePhrase(bandAt(band), phrase);
        return asked.known[phrase];
    }

    public int ofBand(int band, int what)
            throws IndexOutOfBoundsException, IllegalArgumentException {
        Band asked = bandAt(band);
        requireRange(what, 0, 4);
        switch (what) {
            case 0:
                return asked.seats.size();
            case 1:
                return asked.noteCount;
            case 2:
                return asked.phraseCount();
            case 3:
                return asked.heard;
            default:
                return asked.drillNight == nightNow ? 1 : 0;
        }
    }

    // ---- parts; nothing changes

    public int leaps(int band) throws IndexOutOfBoundsException {
        return parts.findBest(bandAt(band), NONE);
    }

    public int part(int band, int phrase) throws IndexOutOfBoundsException {
        Band asked = bandAt(band);
        requirePhrase(asked, phrase);
        return parts.findBest(asked, NONE) == NONE ? NONE : parts.playing[phrase];
    }

    public int without(int band, int seat) throws IndexOutOfBoundsException {
        Band asked = bandAt(band);
        requireIndex(seat, asked.seats.size());
        return parts.findBest(asked, seat);
    }

    // ---- the night of all

    public int perform(int band, int minutes)
            throws IndexOutOfBoundsException, IllegalArgumentException, IllegalStateException {
        Band performer = bandAt(band);
        requireRange(minutes, 1, MOST_MINUTES);
        requireState(performer.heard == NONE);
        int leaps = parts.findBest(performer, NONE);
        requireState(leaps != NONE);
        performer.heard = leaps + NO_PAN_LEAPS * parts.countUntuned(performer, degreesNow);
        performer.over = OVER_A_MINUTE * Math.max(0, minutes - FREE_MINUTES);
        return performer.heard;
    }

    public int mark(int band, int judge, int mark)
            throws IndexOutOfBoundsException, IllegalArgumentException, IllegalStateException {
        Band marked = bandAt(band);
        requireIndex(judge, JUDGES);
        requireRange(mark, 0, MOST_MARK);
        requireState(marked.heard != NONE && marked.marks[judge] == NONE);
        marked.marks[judge] = mark;
        return marked.countMarks();
    }

    public int score(int band) throws IndexOutOfBoundsException, IllegalStateException {
        Band asked = bandAt(band);
        requireState(asked.isRanked());
        return asked.countScore();
    }

    public int rank(int place) throws IndexOutOfBoundsException {
        requireIndex(place, BANDS);
        for (int b = 0; b < bands.size(); b++) {
            if (bands.get(b).isRanked() && countAhead(b) == place) {
                return b;
            }
        }
        return NONE;
    }

    public int night() {
        return nightNow;
    }

    // ---- what the calls share

    private static void requireIndex(int index, int count) {
        if (index < 0 || index >= count) {
            throw new IndexOutOfBoundsException("there is no such thing");
        }
    }

    private static void requireRange(int value, int least, int most) {
        if (value < least || value > most) {
            throw new IllegalArgumentException("out of its range");
        }
    }

    private static void requireState(boolean isMet) {
        if (!isMet) {
            throw new IllegalStateException("not as things stand");
        }
    }

    private static void requirePhrase(Band band, int phrase) {
        requireIndex(phrase, band.phraseCount());
    }

    private Pan panAt(int pan) {
        requireIndex(pan, pans.size());
        return pans.get(pan);
    }

    private Player playerAt(int player) {
        requireIndex(player, players.size());
        return players.get(player);
    }

    private Band bandAt(int band) {
        requireIndex(band, bands.size());
        return bands.get(band);
    }

    private static Seat seatAt(Band band, int seat) {
        requireIndex(seat, band.seats.size());
        return band.seats.get(seat);
    }

    private int seasonNow() {
        return nightNow / NIGHTS_OF_SEASON;
    }

    private int countAhead(int band) {
        int ahead = 0;
        for (int other = 0; other < bands.size(); other++) {
            if (other != band && isAhead(other, band)) {
                ahead++;
            }
        }
        return ahead;
    }

    private boolean isAhead(int one, int other) {
        Band first = bandAt(one);
        Band second = bandAt(other);
        if (!first.isRanked()) {
            return false;
        }
        int firstScore = first.countScore();
        int secondScore = second.countScore();
        if (firstScore != secondScore) {
            return firstScore > secondScore;
        }
        return first.heard != second.heard ? first.heard < second.heard : one < other;
    }

    /** A pan with its fields in a ring. */
    private static final class Pan {
        final int number;
        final int[] tones = new int[FIELDS];
        final int[] blows = new int[FIELDS];
        final boolean[] sunk = new boolean[FIELDS];
        boolean isGiven;

        Pan(int number) {
            this.number = number;
        }

        boolean isCracked(int field) {
            return blows[field] > MOST_BLOWS;
        }

        boolean bears(int field, boolean isSink) {
            return !isCracked(field) && (isSink || !sunk[field]);
        }

        void beat(int field, int force, boolean isSink) {
            int beside = isSink ? force : -force;
            tones[field] += isSink ? -SINKS * force : RAISES * force;
            tones[(field + 1) % FIELDS] += beside;
            tones[(field + FIELDS - 1) % FIELDS] += beside;
            blows[field]++;
            sunk[field] |= isSink;
        }

        void lowerTones() {
            for (int f = 0; f < FIELDS; f++) {
                tones[f]--;
            }
        }

        void copyFrom(Pan other) {
            for (int f = 0; f < FIELDS; f++) {
                tones[f] = other.tones[f];
                blows[f] = other.blows[f];
                sunk[f] = other.sunk[f];
            }
        }

        /**
         * Whether so many more blows might bring the pan in tune; with none, whether it is so.
         * A blow moves its own field by 24 at most and the others by 4 at most: so a field that
         * is further off than the others' blows reach needs one of its own.
         */
        boolean isTunable(int heat, int blowsLeft) {
            int needing = 0;
            for (int f = 0; f < FIELDS; f++) {
                int off = Math.abs(tones[f] - heat) - MOST_CENTS;
                if (isCracked(f) || off > SINKS * MOST_FORCE * blowsLeft) {
                    return false;
                }
                if (off > MOST_FORCE * blowsLeft) {
                    needing++;
                }
            }
            return needing <= blowsLeft;
        }
    }

    /** The search for the plan of a pan, on copies of it. */
    private static final class Planner {
        final int[] row = new int[MOST_PLAN];
        private final ArrayList<Pan> trials = new ArrayList<>();

        Planner() {
            for (int t = 0; t < MOST_PLAN; t++) {
                trials.add(new Pan(t));
            }
        }

        int findRow(Pan pan, int heat) {
            for (int length = 0; length <= MOST_PLAN; length++) {
                if (fillRow(pan, trials, row, 0, length, heat)) {
                    return length;
                }
            }
            return NONE;
        }

        /** Tries the numbers in their order, so that the first row found is the one asked for. */
        private static boolean fillRow(Pan now, ArrayList<Pan> trials, int[] row, int place,
                int left, int heat) {
            if (!now.isTunable(heat, left)) {
                return false;
            }
            if (left <= 0) {
                return true;
            }
            if (place < 0 || place >= row.length || place >= trials.size()) {
                return false;
            }
            Pan next = trials.get(place);
            for (int number = 0; number < BLOW_NUMBERS; number++) {
                int field = number / 8;
                boolean isSink = number % 2 == 1;
                if (now.bears(field, isSink)) {
                    next.copyFrom(now);
                    next.beat(field, number % 8 / 2 + 1, isSink);
                    row[place] = number;
                    if (fillRow(next, trials, row, place + 1, left - 1, heat)) {
                        return true;
                    }
                }
            }
            return false;
        }
    }

    /** A player, and which band it left the latest. */
    private static final class Player {
        final int number;
        final int layout;
        Pan pan;
        int bandCount;
        int leftBand = NONE;
        int leftSeason;

        Player(int number, int layout) {
            this.number = number;
            this.layout = layout;
        }

        boolean mayJoin(int band, int season) {
            return leftBand == NONE || leftBand == band || leftSeason != season;
        }

        boolean hasTunedPan(int heat) {
            return pan != null && pan.isTunable(heat, 0);
        }
    }

    /** A player in a band, and what it knows of the song there. */
    private static final class Seat {
        final Player player;
        final int[] known = new int[MOST_PHRASES];

        Seat(Player player) {
            this.player = player;
        }

        int learn(int phrase, int lower, int higher) {
            int before = known[phrase];
            if (before == WRONG) {
                return lower == RIGHT && higher == RIGHT ? RIGHT : WRONG;
            }
            if (before == RIGHT) {
                return RIGHT;
            }
            int heard = lower != UNKNOWN ? lower : higher;
            return heard == RIGHT && player.bandCount >= MOST_BANDS_OF_ONE ? WRONG : heard;
        }
    }

    /** A band with its seats, its song and its marks. */
    private static final class Band {
        final ArrayList<Seat> seats = new ArrayList<>();
        final int[] song = new int[MOST_NOTES];
        final int[] marks = new int[JUDGES];
        int noteCount;
        int drillNight = NONE;
        int heard = NONE;
        int over;

        Band() {
            Arrays.fill(marks, NONE);
        }

        int phraseCount() {
            return noteCount / PHRASE;
        }

        int seatOf(Player player) {
            for (int s = 0; s < seats.size(); s++) {
                if (seats.get(s).player == player) {
                    return s;
                }
            }
            return NONE;
        }

        void spoilPhrase(int phrase) {
            for (int s = 0; s < seats.size(); s++) {
                Seat seat = seats.get(s);
                if (seat.known[phrase] == RIGHT) {
                    seat.known[phrase] = WRONG;
                }
            }
        }

        /** A seat that is not there counts as one that knows nothing: it teaches nobody. */
        void learnPhrase(int phrase) {
            int lower = UNKNOWN;
            for (int s = 0; s < seats.size(); s++) {
                Seat seat = seats.get(s);
                int higher = s + 1 < seats.size() ? seats.get(s + 1).known[phrase] : UNKNOWN;
                int before = seat.known[phrase];
                seat.known[phrase] = seat.learn(phrase, lower, higher);
                lower = before;
            }
        }

        void wearPans() {
            for (int s = 0; s < seats.size(); s++) {
                Pan worn = seats.get(s).player.pan;
                if (worn != null) {
                    worn.lowerTones();
                }
            }
        }

        int countRight(int phrase) {
            int right = 0;
            for (int s = 0; s < seats.size(); s++) {
                if (seats.get(s).known[phrase] == RIGHT) {
                    right++;
                }
            }
            return right;
        }

        int countMarks() {
            int count = 0;
            for (int j = 0; j < JUDGES; j++) {
                if (marks[j] != NONE) {
                    count++;
                }
            }
            return count;
        }

        boolean isRanked() {
            return countMarks() == JUDGES;
        }

        int countScore() {
            int sum = 0;
            int least = MOST_MARK;
            int most = 0;
            for (int j = 0; j < JUDGES; j++) {
                sum += marks[j];
                least = Math.min(least, marks[j]);
                most = Math.max(most, marks[j]);
            }
            return sum - least - most - over;
        }
    }

    /** The best parts of a band, found from the last phrase to the first. */
    private static final class Parts {
        final int[] playing = new int[MOST_PHRASES];
        /** Of each phrase and seat: the leaps from there on if the seat plays it, or NONE. */
        private final int[][] fewest = new int[MOST_PHRASES][MOST_SEATS];

        /** Their leaps, NONE if the band would not be ready, with one seat left out or NONE. */
        int findBest(Band band, int leftOut) {
            int phrases = band.phraseCount();
            for (int p = phrases - 1; p >= 0; p--) {
                if (!countFewest(band, p, leftOut)) {
                    return NONE;
                }
            }
            int ahead = NONE;
            for (int p = 0; p < phrases; p++) {
                ahead = bestSeat(band, p, ahead);
                playing[p] = ahead;
            }
            return phrases > 0 && playing[0] != NONE ? fewest[0][playing[0]] : NONE;
        }

        int countUntuned(Band band, int heat) {
            int untuned = 0;
            for (int s = 0; s < band.seats.size(); s++) {
                if (isPlaying(s, band.phraseCount())
                        && !band.seats.get(s).player.hasTunedPan(heat)) {
                    untuned++;
                }
            }
            return untuned;
        }

        private boolean isPlaying(int seat, int phrases) {
            for (int p = 0; p < phrases; p++) {
                if (playing[p] == seat) {
                    return true;
                }
            }
            return false;
        }

        /** Tells whether there is a seat for the phrase at all. */
        private boolean countFewest(Band band, int phrase, int leftOut) {
            boolean isPlayed = false;
            for (int s = 0; s < band.seats.size(); s++) {
                Seat seat = band.seats.get(s);
                fewest[phrase][s] = NONE;
                if (s != leftOut && seat.known[phrase] == RIGHT) {
                    int layout = seat.player.layout;
                    int next = bestSeat(band, phrase + 1, s);
                    int later = next == NONE ? 0 : fewest[phrase + 1][next]
                            + leapsInto(band, phrase + 1, next == s, layout);
                    fewest[phrase][s] = leapsInside(band, phrase, layout) + later;
                    isPlayed = true;
                }
            }
            return isPlayed;
        }

        /** The lowest of the best seats behind the one that plays ahead; NONE after the song. */
        private int bestSeat(Band band, int phrase, int ahead) {
            int best = NONE;
            int least = 0;
            if (phrase >= band.phraseCount()) {
                return NONE;
            }
            for (int s = 0; s < band.seats.size(); s++) {
                int layout = band.seats.get(s).player.layout;
                int leaps = fewest[phrase][s] + leapsInto(band, phrase, s == ahead, layout);
                if (fewest[phrase][s] != NONE && (best == NONE || leaps < least)) {
                    best = s;
                    least = leaps;
                }
            }
            return best;
        }

        private static int leapsInside(Band band, int phrase, int layout) {
            int leaps = 0;
            for (int n = phrase * PHRASE; n < phrase * PHRASE + PHRASE - 1; n++) {
                leaps += leapBetween(layout, band.song[n], band.song[n + 1]);
            }
            return leaps;
        }

        private static int leapsInto(Band band, int phrase, boolean isSameSeat, int layout) {
            if (phrase <= 0) {
                return 0;
            }
            int first = phrase * PHRASE;
            return isSameSeat ? leapBetween(layout, band.song[first - 1], band.song[first])
                    : OTHER_SEAT_LEAPS;
        }

        private static int leapBetween(int layout, int from, int to) {
            int apart = Math.abs(spotOf(layout, to) - spotOf(layout, from));
            return Math.min(apart, NOTES - apart);
        }

        private static int spotOf(int layout, int note) {
            return layout == FIFTHS ? 7 * note % NOTES : 4 * (note % 3) + note / 3;
        }
    }
}
