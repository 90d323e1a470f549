import java.util.function.Supplier;

/** Promises 14 to 21. */
public final class SongsTest {
    private static final Check CHECK = new Check("SongsTest");
    private static final int UNKNOWN = Panyard.UNKNOWN, RIGHT = Panyard.RIGHT, WRONG = Panyard.WRONG;
    private static final int[] BAD_BANDS = {-1, 4, Integer.MIN_VALUE, Integer.MAX_VALUE};

    public static void main(String[] args) {
        note();
        change();
        tellAndKnows();
        drillOfThree();
        drillAtOnce();
        drillWearsPans();
        drillOnceANight();
        drillRefused();
        pass();
        seat();
        ofBand();
        CHECK.finish();
    }

    /** So many players in band 2, which has so many notes. */
    private static Panyard withSong(int seats, int notes) {
        Panyard x = new Panyard();
        for (int s = 0; s < seats; s++) {
            x.player(s % 2);
            x.join(s, 2);
        }
        for (int n = 0; n < notes; n++) {
            x.note(2, n % 12);
        }
        return x;
    }

    private static void note() {
        Panyard x = new Panyard();
        for (int n = 0; n < 24; n++) {
            CHECK.same("phrases", n / 4, x.ofBand(1, 2));
            CHECK.same("notes", n + 1, x.note(1, (n * 5) % 12));
        }
        CHECK.same("phrases", 6, x.ofBand(1, 2));
        CHECK.same("notes of another one", 0, x.ofBand(0, 1));
        for (int n = 0; n < 24; n++) {
            CHECK.same("the note at " + n, (n * 5) % 12, x.change(1, n, 0));
        }
        for (int bad : new int[] {-1, 12, Integer.MIN_VALUE, Integer.MAX_VALUE}) {
            CHECK.refused("note", Check.ARGUMENT, () -> withSong(1, 5), y -> y.note(2, bad));
            CHECK.refused("25th, off", Check.ARGUMENT, () -> withSong(1, 24),
                    y -> y.note(2, bad));
            CHECK.refused("note of no band", Check.INDEX, () -> withSong(1, 24),
                    y -> y.note(4, bad));
        }
        for (int bad : BAD_BANDS) {
            CHECK.refused("note of no band", Check.INDEX, () -> withSong(1, 5),
                    y -> y.note(bad, 12));
        }
        CHECK.refused("25th", Check.STATE, () -> withSong(1, 24), y -> y.note(2, 0));
    }

    private static void change() {
        Panyard x = withSong(3, 14);
        x.tell(2, 0, 1);
        x.tell(2, 2, 1);
        x.tell(2, 0, 0);
        CHECK.same("the same again", 4, x.change(2, 4, 4));
        CHECK.same("spoils nothing", RIGHT, x.knows(2, 0, 1));
        CHECK.same("the last of the phrase", 7, x.change(2, 7, 0));
        CHECK.same("spoils it", WRONG, x.knows(2, 0, 1));
        CHECK.same("of all", WRONG, x.knows(2, 2, 1));
        CHECK.same("not what is unknown", UNKNOWN, x.knows(2, 1, 1));
        CHECK.same("not another phrase", RIGHT, x.knows(2, 0, 0));
        CHECK.same("changed again", 0, x.change(2, 7, 7));
        CHECK.same("wrong stays wrong", WRONG, x.knows(2, 0, 1));
        CHECK.same("the next phrase's first", 8, x.change(2, 8, 1));
        CHECK.same("the phrase ahead's", 3, x.change(2, 3, 11));
        CHECK.same("spoils that one", WRONG, x.knows(2, 0, 0));
        CHECK.same("one of no whole phrase", 1, x.change(2, 13, 9));
        CHECK.same("is changed", 9, x.change(2, 13, 9));
        x.note(2, 0);
        x.note(2, 0);
        CHECK.same("nobody knows what was not whole", UNKNOWN, x.knows(2, 0, 3));
        for (int bad : new int[] {-1, 14, 24, Integer.MIN_VALUE, Integer.MAX_VALUE}) {
            CHECK.refused("place", Check.INDEX, () -> withSong(3, 14), y -> y.change(2, bad, 12));
        }
        for (int bad : new int[] {-1, 12, Integer.MIN_VALUE, Integer.MAX_VALUE}) {
            CHECK.refused("note", Check.ARGUMENT, () -> withSong(3, 14),
                    y -> y.change(2, 13, bad));
        }
        for (int bad : BAD_BANDS) {
            CHECK.refused("change of no band", Check.INDEX, () -> withSong(3, 14),
                    y -> y.change(bad, 0, 12));
        }
        CHECK.refused("place of no song", Check.INDEX, Panyard::new, y -> y.change(0, 0, 0));
    }

    private static void tellAndKnows() {
        Panyard x = withSong(2, 11);
        CHECK.same("unknown at first", UNKNOWN, x.knows(2, 1, 1));
        CHECK.same("told", UNKNOWN, x.tell(2, 1, 1));
        CHECK.same("right then", RIGHT, x.knows(2, 1, 1));
        CHECK.same("not another seat", UNKNOWN, x.knows(2, 0, 1));
        CHECK.same("not another phrase", UNKNOWN, x.knows(2, 1, 0));
        CHECK.same("told again", RIGHT, x.tell(2, 1, 1));
        x.change(2, 5, 0);
        CHECK.same("told when wrong", WRONG, x.tell(2, 1, 1));
        CHECK.same("right then", RIGHT, x.knows(2, 1, 1));
        for (int bad : new int[] {-1, 2, Integer.MIN_VALUE, Integer.MAX_VALUE}) {
            CHECK.refused("seat", Check.INDEX, () -> withSong(2, 11), y -> y.tell(2, bad, 0));
            CHECK.refused("phrase", Check.INDEX, () -> withSong(2, 11), y -> y.tell(2, 0, bad));
            CHECK.refused("seat", Check.INDEX, () -> withSong(2, 11), y -> y.knows(2, bad, 0));
            CHECK.refused("phrase", Check.INDEX, () -> withSong(2, 11), y -> y.knows(2, 0, bad));
        }
        for (int bad : BAD_BANDS) {
            CHECK.refused("band", Check.INDEX, () -> withSong(2, 11), y -> y.tell(bad, 0, 0));
            CHECK.refused("band", Check.INDEX, () -> withSong(2, 11), y -> y.knows(bad, 0, 0));
        }
    }

    /** Brings the seats of band 2 to know phrase 0 so, and some players into a second band. */
    private static Panyard knowing(int[] known, boolean... inTwo) {
        Panyard x = withSong(known.length, 8);
        for (int s = 0; s < known.length; s++) {
            if (known[s] == WRONG) {
                x.tell(2, s, 0);
            }
            if (s < inTwo.length && inTwo[s]) {
                x.join(s, 0);
            }
        }
        x.change(2, 0, 11);
        for (int s = 0; s < known.length; s++) {
            if (known[s] == RIGHT) {
                x.tell(2, s, 0);
            }
        }
        return x;
    }

    /** What the middle one of three knows after a drill, by what the document says of it. */
    private static int dueInTheMiddle(int lower, int own, int higher, boolean inTwo) {
        switch (own) {
            case RIGHT:
                return RIGHT;
            case WRONG:
                return lower == RIGHT && higher == RIGHT ? RIGHT : WRONG;
            default:
                int learnt = lower == RIGHT || lower == WRONG ? lower : higher;
                return learnt == RIGHT && inTwo ? WRONG : learnt;
        }
    }

    private static void drillOfThree() {
        for (int code = 0; code < 54; code++) {
            int lower = code % 3;
            int own = code / 3 % 3;
            int higher = code / 9 % 3;
            boolean inTwo = code >= 27;
            Panyard x = knowing(new int[] {lower, own, higher}, false, inTwo);
            int right = x.drill(2, 0);
            String what = "drill of " + lower + own + higher + inTwo;
            CHECK.same(what, dueInTheMiddle(lower, own, higher, inTwo), x.knows(2, 1, 0));
            CHECK.same(what + " first", dueInTheMiddle(UNKNOWN, lower, own, false),
                    x.knows(2, 0, 0));
            CHECK.same(what + " last", dueInTheMiddle(own, higher, UNKNOWN, false),
                    x.knows(2, 2, 0));
            int count = 0;
            for (int s = 0; s < 3; s++) {
                count += x.knows(2, s, 0) == RIGHT ? 1 : 0;
                CHECK.same(what + " other phrase", UNKNOWN, x.knows(2, s, 1));
            }
            CHECK.same(what + " answers", count, right);
        }
    }

    private static void sameKnown(String what, Panyard x, int... due) {
        for (int s = 0; s < due.length; s++) {
            CHECK.same(what + " seat " + s, due[s], x.knows(2, s, 0));
        }
    }

    private static void drillAtOnce() {
        Panyard x = knowing(new int[] {RIGHT, UNKNOWN, UNKNOWN, UNKNOWN, WRONG, UNKNOWN});
        CHECK.same("it spreads one seat a night", 2, x.drill(2, 0));
        sameKnown("first night", x, RIGHT, RIGHT, UNKNOWN, WRONG, WRONG, WRONG);
        x.pass(1);
        CHECK.same("second night", 3, x.drill(2, 0));
        sameKnown("second night", x, RIGHT, RIGHT, RIGHT, WRONG, WRONG, WRONG);
        x.tell(2, 4, 0);
        x.pass(1);
        CHECK.same("third night", 5, x.drill(2, 0));
        sameKnown("third night", x, RIGHT, RIGHT, RIGHT, RIGHT, RIGHT, WRONG);
        x.pass(1);
        CHECK.same("the last seat has nobody higher", 5, x.drill(2, 0));
        Panyard wrongAtOnce = knowing(new int[] {RIGHT, WRONG, WRONG, RIGHT});
        CHECK.same("two wrong ones keep it", 2, wrongAtOnce.drill(2, 0));
        Panyard alone = knowing(new int[] {WRONG});
        CHECK.same("one alone keeps it", 0, alone.drill(2, 0));
        Panyard inTwo = knowing(new int[] {RIGHT, WRONG, RIGHT}, true, true, true);
        CHECK.same("in two bands, but no unknown ones", 3, inTwo.drill(2, 0));
        Panyard left = knowing(new int[] {RIGHT, UNKNOWN}, false, true);
        left.leave(1, 0);
        CHECK.same("in two bands no more", 2, left.drill(2, 0));
        Panyard wrongLearnt = knowing(new int[] {WRONG, UNKNOWN}, false, true);
        CHECK.same("what is wrong is learnt wrong", 0, wrongLearnt.drill(2, 0));
        sameKnown("in two bands", wrongLearnt, WRONG, WRONG);
    }

    private static void drillWearsPans() {
        Panyard x = withSong(2, 8);
        for (int p = 0; p < 4; p++) {
            x.pan(p, 10, 20, -60);
        }
        x.player(0);
        x.give(0, 3);
        x.give(1, 1);
        x.give(2, 2);
        for (int b = 0; b < 7; b++) {
            x.blow(1, 0, 1, true);
        }
        int[] before = new int[16];
        for (int i = 0; i < 16; i++) {
            before[i] = x.field(i / 4, i % 4, 0);
        }
        x.drill(2, 1);
        for (int i = 0; i < 16; i++) {
            int worn = i / 4 == 1 || i / 4 == 3 ? 1 : 0;
            CHECK.same("tone " + i, before[i] - worn, x.field(i / 4, i % 4, 0));
            CHECK.same("blows " + i, i == 4 ? 7 : 0, x.field(i / 4, i % 4, 2));
        }
        Panyard both = withSong(1, 4);
        both.pan(0, 0, 0, 0);
        both.give(0, 0);
        both.join(0, 3);
        for (int n = 0; n < 4; n++) {
            both.note(3, n);
        }
        both.drill(2, 0);
        both.drill(3, 0);
        CHECK.same("each band's drill wears it", -2, both.field(0, 3, 0));
    }

    private static void drillOnceANight() {
        Panyard x = withSong(1, 8);
        CHECK.same("no drill yet", 0, x.ofBand(2, 4));
        x.drill(2, 0);
        CHECK.same("a drill in this night", 1, x.ofBand(2, 4));
        CHECK.same("not of another one", 0, x.ofBand(1, 4));
        x.pass(1);
        CHECK.same("no drill in the next night", 0, x.ofBand(2, 4));
        x.drill(2, 1);
        CHECK.same("again a drill", 1, x.ofBand(2, 4));
    }

    private static void drillRefused() {
        Supplier<Panyard> drilled = () -> {
            Panyard x = withSong(2, 8);
            x.pan(0, 0, 0, 0);
            x.give(0, 0);
            x.tell(2, 0, 0);
            x.drill(2, 1);
            return x;
        };
        CHECK.refused("twice a night", Check.STATE, drilled, y -> y.drill(2, 0));
        CHECK.refused("the same phrase", Check.STATE, drilled, y -> y.drill(2, 1));
        CHECK.refused("no seats", Check.STATE, () -> withSong(0, 8), y -> y.drill(2, 0));
        for (int bad : new int[] {-1, 2, Integer.MIN_VALUE, Integer.MAX_VALUE}) {
            CHECK.refused("phrase", Check.INDEX, drilled, y -> y.drill(2, bad));
            CHECK.refused("phrase, no seats", Check.INDEX, () -> withSong(0, 8),
                    y -> y.drill(2, bad));
        }
        CHECK.refused("no whole phrase", Check.INDEX, () -> withSong(0, 3), y -> y.drill(2, 0));
        for (int bad : BAD_BANDS) {
            CHECK.refused("band", Check.INDEX, drilled, y -> y.drill(bad, 0));
        }
    }

    private static Panyard atNight(int night) {
        Panyard x = new Panyard();
        while (x.night() < night) {
            x.pass(Math.min(30, night - x.night()));
        }
        return x;
    }

    private static void pass() {
        Panyard x = new Panyard();
        CHECK.same("a night", 1, x.pass(1));
        CHECK.same("thirty nights", 31, x.pass(30));
        CHECK.same("the night", 31, x.night());
        CHECK.same("to the last one", 1000, atNight(999).pass(1));
        CHECK.same("to the last one", 1000, atNight(970).pass(30));
        CHECK.refused("above 1000", Check.STATE, () -> atNight(1000), y -> y.pass(1));
        CHECK.refused("above 1000", Check.STATE, () -> atNight(971), y -> y.pass(30));
        for (int bad : new int[] {-1, 0, 31, Integer.MIN_VALUE, Integer.MAX_VALUE}) {
            CHECK.refused("nights", Check.ARGUMENT, () -> atNight(5), y -> y.pass(bad));
            CHECK.refused("nights at last", Check.ARGUMENT, () -> atNight(1000),
                    y -> y.pass(bad));
        }
    }

    private static void seat() {
        Panyard x = withSong(3, 0);
        x.join(2, 0);
        CHECK.same("its player", 2, x.seat(2, 2));
        CHECK.same("its player", 0, x.seat(2, 0));
        CHECK.same("its player elsewhere", 2, x.seat(0, 0));
        for (int bad : new int[] {-1, 3, Integer.MIN_VALUE, Integer.MAX_VALUE}) {
            CHECK.refused("seat", Check.INDEX, () -> withSong(3, 0), y -> y.seat(2, bad));
        }
        for (int bad : BAD_BANDS) {
            CHECK.refused("band", Check.INDEX, () -> withSong(3, 0), y -> y.seat(bad, 0));
        }
    }

    private static void ofBand() {
        Panyard x = withSong(3, 11);
        CHECK.same("seats", 3, x.ofBand(2, 0));
        CHECK.same("notes", 11, x.ofBand(2, 1));
        CHECK.same("phrases", 2, x.ofBand(2, 2));
        CHECK.same("heard", Panyard.NONE, x.ofBand(2, 3));
        CHECK.same("drill", 0, x.ofBand(2, 4));
        for (int bad : new int[] {-1, 5, Integer.MIN_VALUE, Integer.MAX_VALUE}) {
            CHECK.refused("what", Check.ARGUMENT, () -> withSong(3, 11), y -> y.ofBand(2, bad));
        }
        for (int bad : BAD_BANDS) {
            CHECK.refused("band", Check.INDEX, () -> withSong(3, 11), y -> y.ofBand(bad, 5));
        }
    }
}
