/** Promises 1 to 7. */
public final class PansTest {
    private static final Check CHECK = new Check("PansTest");

    public static void main(String[] args) {
        newObject();
        pan();
        blow();
        blowRefused();
        heat();
        field();
        isInTune();
        plan();
        planUnderRules();
        planAgainstAllRows();
        CHECK.finish();
    }

    private static Panyard withPan(int first, int second, int third, int fourth) {
        Panyard x = new Panyard();
        x.pan(first, second, third, fourth);
        return x;
    }

    private static Panyard withPans(int count) {
        Panyard x = new Panyard();
        for (int p = 0; p < count; p++) {
            x.pan(p, -p, 2 * p, -2 * p);
        }
        return x;
    }

    private static void newObject() {
        Panyard x = new Panyard();
        CHECK.same("night of a new one", 0, x.night());
        for (int b = 0; b < 4; b++) {
            CHECK.same("seats of a new one", 0, x.ofBand(b, 0));
            CHECK.same("notes of a new one", 0, x.ofBand(b, 1));
            CHECK.same("phrases of a new one", 0, x.ofBand(b, 2));
            CHECK.same("heard of a new one", Panyard.NONE, x.ofBand(b, 3));
            CHECK.same("drills of a new one", 0, x.ofBand(b, 4));
            CHECK.same("leaps of a new one", Panyard.NONE, x.leaps(b));
            CHECK.same("ranks of a new one", Panyard.NONE, x.rank(b));
        }
        CHECK.same("heat of a new one", 0, x.heat(3));
        CHECK.refused("no pan yet", Check.INDEX, Panyard::new, y -> y.isInTune(0));
        CHECK.refused("no player yet", Check.INDEX, Panyard::new, y -> y.ofPlayer(0, 0));
        x.pan(1, 1, 1, 1);
        CHECK.refused("objects share nothing", Check.INDEX, Panyard::new, y -> y.isInTune(0));
    }

    private static void pan() {
        Panyard x = new Panyard();
        CHECK.same("first pan", 0, x.pan(-60, 60, 59, -59));
        int[] tones = {-60, 60, 59, -59};
        for (int f = 0; f < 4; f++) {
            CHECK.same("tone told", tones[f], x.field(0, f, 0));
            CHECK.same("no blows yet", 0, x.field(0, f, 2));
            CHECK.same("not sunk yet", 0, x.field(0, f, 3));
            CHECK.same("not cracked yet", 0, x.field(0, f, 4));
        }
        for (int p = 1; p < 6; p++) {
            CHECK.same("next pan", p, x.pan(p, 0, 0, 0));
        }
        for (int bad : new int[] {-61, 61, Integer.MIN_VALUE, Integer.MAX_VALUE}) {
            CHECK.refused("first", Check.ARGUMENT, Panyard::new, y -> y.pan(bad, 0, 0, 0));
            CHECK.refused("second", Check.ARGUMENT, Panyard::new, y -> y.pan(0, bad, 0, 0));
            CHECK.refused("third", Check.ARGUMENT, Panyard::new, y -> y.pan(0, 0, bad, 0));
            CHECK.refused("fourth", Check.ARGUMENT, Panyard::new, y -> y.pan(0, 0, 0, bad));
        }
        CHECK.refused("seventh", Check.STATE, () -> withPans(6), y -> y.pan(0, 0, 0, 0));
        CHECK.refused("seventh, off", Check.ARGUMENT, () -> withPans(6), y -> y.pan(0, 0, 0, 61));
    }

    private static void blow() {
        for (int f = 0; f < 4; f++) {
            for (int force = 1; force <= 4; force++) {
                blowOnce(f, force, false, 4 * force, -force);
                blowOnce(f, force, true, -6 * force, force);
            }
        }
        Panyard x = withPan(0, 0, 0, 0);
        x.blow(0, 1, 1, true);
        x.blow(0, 1, 2, true);
        CHECK.same("sunk twice", -18, x.field(0, 1, 0));
        CHECK.same("its neighbour may be raised", 3 + 4, x.blow(0, 0, 1, false));
        for (int b = 2; b < 7; b++) {
            x.blow(0, 1, 1, true);
        }
        CHECK.same("seven blows", 7, x.field(0, 1, 2));
        CHECK.same("cracked", 1, x.field(0, 1, 4));
        int before = x.field(0, 1, 0);
        x.blow(0, 2, 3, false);
        CHECK.same("a cracked one is moved on", before - 3, x.field(0, 1, 0));
    }

    private static void blowOnce(int field, int force, boolean isSink, int own, int beside) {
        Panyard x = withPan(10, 20, 30, 40);
        x.pan(0, 0, 0, 0);
        String what = "blow " + field + ", " + force + ", " + isSink;
        CHECK.same(what, 10 + 10 * field + own, x.blow(0, field, force, isSink));
        for (int f = 0; f < 4; f++) {
            int apart = Math.abs(f - field);
            int moved = apart == 0 ? own : apart == 2 ? 0 : beside;
            CHECK.same(what + " tone of " + f, 10 + 10 * f + moved, x.field(0, f, 0));
            CHECK.same(what + " blows on " + f, apart == 0 ? 1 : 0, x.field(0, f, 2));
            CHECK.same(what + " sunk " + f, apart == 0 && isSink ? 1 : 0, x.field(0, f, 3));
            CHECK.same(what + " other pan", 0, x.field(1, f, 0) + x.field(1, f, 2));
        }
    }

    private static Panyard beaten(int times, boolean isSink) {
        Panyard x = withPan(0, 0, 0, 0);
        for (int b = 0; b < times; b++) {
            x.blow(0, 2, 1, isSink);
        }
        return x;
    }

    private static void blowRefused() {
        for (int bad : new int[] {-1, 1, 6, Integer.MIN_VALUE, Integer.MAX_VALUE}) {
            CHECK.refused("no pan", Check.INDEX, () -> withPans(1), y -> y.blow(bad, 0, 9, true));
        }
        for (int bad : new int[] {-1, 4, Integer.MIN_VALUE, Integer.MAX_VALUE}) {
            CHECK.refused("no field", Check.INDEX, () -> withPans(1),
                    y -> y.blow(0, bad, 9, true));
        }
        for (int bad : new int[] {-1, 0, 5, Integer.MIN_VALUE, Integer.MAX_VALUE}) {
            CHECK.refused("no force", Check.ARGUMENT, () -> withPans(1),
                    y -> y.blow(0, 3, bad, true));
            CHECK.refused("no force on a cracked one", Check.ARGUMENT, () -> beaten(7, true),
                    y -> y.blow(0, 2, bad, true));
        }
        CHECK.refused("raise a sunk one", Check.STATE, () -> beaten(1, true),
                y -> y.blow(0, 2, 1, false));
        CHECK.refused("sink a cracked one", Check.STATE, () -> beaten(7, false),
                y -> y.blow(0, 2, 1, true));
        CHECK.refused("raise a cracked one", Check.STATE, () -> beaten(7, false),
                y -> y.blow(0, 2, 1, false));
        CHECK.same("six blows do not crack", 0, beaten(6, false).field(0, 2, 4));
        CHECK.same("the seventh is borne", 28, beaten(6, false).blow(0, 2, 1, false));
    }

    private static void heat() {
        Panyard x = withPan(0, 1, 2, 3);
        x.pan(9, 9, 9, 9);
        CHECK.same("heat was", 0, x.heat(15));
        CHECK.same("heat was", 15, x.heat(0));
        CHECK.same("heat was", 0, x.heat(7));
        CHECK.same("cents by heat", 3 - 7, x.field(0, 3, 1));
        CHECK.same("cents by heat, other pan", 9 - 7, x.field(1, 3, 1));
        CHECK.same("tone whatever heat", 3, x.field(0, 3, 0));
        CHECK.same("heat was", 7, x.heat(7));
        for (int bad : new int[] {-1, 16, Integer.MIN_VALUE, Integer.MAX_VALUE}) {
            CHECK.refused("heat", Check.ARGUMENT, () -> withPans(2), y -> y.heat(bad));
        }
    }

    private static void field() {
        Panyard x = withPan(10, -20, 30, -40);
        x.heat(4);
        x.blow(0, 3, 2, true);
        int[][] due = {{12, 8, 0, 0, 0}, {-20, -24, 0, 0, 0}, {32, 28, 0, 0, 0},
            {-52, -56, 1, 1, 0}};
        for (int f = 0; f < 4; f++) {
            for (int what = 0; what < 5; what++) {
                CHECK.same("field " + f + ", " + what, due[f][what], x.field(0, f, what));
            }
        }
        for (int bad : new int[] {-1, 5, Integer.MIN_VALUE, Integer.MAX_VALUE}) {
            CHECK.refused("what", Check.ARGUMENT, () -> withPans(1), y -> y.field(0, 0, bad));
            CHECK.refused("field", Check.INDEX, () -> withPans(1), y -> y.field(0, bad, 5));
            CHECK.refused("pan", Check.INDEX, () -> withPans(1), y -> y.field(bad, 0, 5));
        }
        CHECK.refused("field 4", Check.INDEX, () -> withPans(1), y -> y.field(0, 4, 0));
        CHECK.refused("pan 1", Check.INDEX, () -> withPans(1), y -> y.field(1, 0, 0));
    }

    private static void isInTune() {
        for (int f = 0; f < 4; f++) {
            for (int tone = -7; tone <= 7; tone++) {
                int[] t = new int[4];
                t[f] = tone;
                Panyard x = withPan(t[0], t[1], t[2], t[3]);
                CHECK.isSo("in tune with " + tone, x.isInTune(0) == (Math.abs(tone) <= 5));
                x.heat(2);
                CHECK.isSo("in tune with " + tone + " at heat 2",
                        x.isInTune(0) == (tone >= -3 && tone <= 7));
            }
        }
        Panyard x = withPan(0, -12, 0, 18);
        CHECK.isSo("not in tune", !x.isInTune(0));
        for (int b = 0; b < 3; b++) {
            x.blow(0, 1, 1, false);
            x.blow(0, 3, 1, true);
        }
        CHECK.isSo("beaten in tune", x.isInTune(0));
        cracked();
        for (int bad : new int[] {-1, 1, Integer.MIN_VALUE, Integer.MAX_VALUE}) {
            CHECK.refused("in tune", Check.INDEX, () -> withPans(1), y -> y.isInTune(bad));
        }
    }

    private static void cracked() {
        Panyard x = withPan(7, -24, 7, 0);
        for (int b = 0; b < 6; b++) {
            x.blow(0, 1, 1, false);
        }
        CHECK.isSo("six blows are in tune", x.isInTune(0));
        x.blow(0, 1, 1, false);
        CHECK.same("cents of the cracked one", 4, x.field(0, 1, 1));
        CHECK.isSo("a cracked one is out of tune", !x.isInTune(0));
        CHECK.same("and has no plan", Panyard.NONE, x.plan(0, 0));
        CHECK.same("and no first blow", Panyard.NONE, x.plan(0, 1));
    }

    private static void samePlan(String what, Panyard x, int length, int... numbers) {
        String before = Snapshot.of(x);
        CHECK.same(what + " length", length, x.plan(0, 0));
        for (int place = 1; place <= 3; place++) {
            int due = place <= numbers.length ? numbers[place - 1] : Panyard.NONE;
            CHECK.same(what + " blow " + place, due, x.plan(0, place));
        }
        CHECK.isSo(what + " changed something", before.equals(Snapshot.of(x)));
    }

    private static void plan() {
        samePlan("in tune already", withPan(5, -5, 5, -5), 0);
        samePlan("one blow", withPan(12, -1, 0, -1), 1, 3);
        samePlan("one raise", withPan(-7, 0, 0, 0), 1, 0);
        samePlan("one on the last field", withPan(0, 0, 0, 12), 1, 27);
        samePlan("a lower one beside it", withPan(0, 0, 0, 6), 1, 0);
        samePlan("two blows", withPan(10, -10, 10, -10), 2, 10, 28);
        samePlan("none of three", withPan(60, 60, 60, 60), Panyard.NONE);
        Panyard x = withPan(12, 6, 9, 6);
        x.heat(10);
        samePlan("the heat counts", x, 0);
        for (int bad : new int[] {-1, 4, Integer.MIN_VALUE, Integer.MAX_VALUE}) {
            CHECK.refused("place", Check.ARGUMENT, () -> withPans(1), y -> y.plan(0, bad));
            CHECK.refused("pan", Check.INDEX, () -> withPans(1), y -> y.plan(bad, 4));
        }
        CHECK.refused("pan 1", Check.INDEX, () -> withPans(1), y -> y.plan(1, 0));
    }

    private static void planUnderRules() {
        Panyard sunk = withPan(0, 4, 0, 4);
        sunk.blow(0, 0, 1, true);
        samePlan("at -6, not sunk", withPan(-6, 5, 0, 5), 1, 0);
        samePlan("at -6, sunk", sunk, 1, 9);
        samePlan("at -6 by five blows", raisedFirst(5), 1, 0);
        samePlan("at -6 by six blows", raisedFirst(6), 1, 9);
        samePlan("cracked", raisedFirst(7), Panyard.NONE);
    }

    /** Its first field is at -6 by so many blows, those beside it at 5. */
    private static Panyard raisedFirst(int times) {
        Panyard x = withPan(-6 - 4 * times, 5 + times, 0, 5 + times);
        for (int b = 0; b < times; b++) {
            x.blow(0, 0, 1, false);
        }
        return x;
    }

    private static void planAgainstAllRows() {
        Numbers numbers = new Numbers(7);
        int[] lengths = new int[5];
        for (int run = 0; run < 400; run++) {
            int span = 6 + run % 30;
            Panyard x = withPan(numbers.from(-span, span), numbers.from(-span, span),
                    numbers.from(-span, span), numbers.from(-span, span));
            x.heat(numbers.from(0, 15) * (run % 2));
            for (int b = numbers.from(0, 12); b > 0; b--) {
                int field = run % 3 == 0 ? 1 : numbers.from(0, 3);
                boolean isSink = numbers.from(0, 2) == 0 || x.field(0, field, 3) == 1;
                if (x.field(0, field, 4) == 0 && x.field(0, field, 2) < 6) {
                    x.blow(0, field, numbers.from(1, 2), isSink);
                }
            }
            int[] due = AllRows.planOf(x, 0);
            lengths[due == null ? 4 : due.length]++;
            samePlan("plan of run " + run, x, due == null ? -1 : due.length,
                    due == null ? new int[0] : due);
        }
        for (int length = 0; length < lengths.length; length++) {
            CHECK.isSo("no plan of length " + length + " was met", lengths[length] > 0);
        }
    }
}
