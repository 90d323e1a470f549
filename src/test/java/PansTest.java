/** Promises 1 to 7 and what the terms say of pans, sentence by sentence. */
public final class PansTest {
    private static final Check CHECK = new Check("PansTest");

    public static void main(String[] args) {
        newObject();
        pan();
        sixPans();
        blow();
        blowRefused();
        ring();
        tones();
        sunk();
        cracked();
        heat();
        cents();
        field();
        fieldRefused();
        isInTune();
        plan();
        planFewest();
        planBorne();
        planLowest();
        CHECK.finish(1, 7, "### Pans", "Players, bands");
    }

    private static void newObject() {
        CHECK.test(1, "No PANS and PLAYERS, BANDS without SEATS and NOTES, the night 0.", () -> {
            Panyard x = new Panyard();
            CHECK.same("the night", 0, x.night());
            for (int b = 0; b < 4; b++) {
                int band = b;
                CHECK.same("seats", 0, x.ofBand(b, 0));
                CHECK.same("notes", 0, x.ofBand(b, 1));
                CHECK.same("phrases", 0, x.ofBand(b, 2));
                CHECK.same("heard", Panyard.NONE, x.ofBand(b, 3));
                CHECK.same("drills", 0, x.ofBand(b, 4));
                CHECK.same("leaps", Panyard.NONE, x.leaps(b));
                CHECK.same("ranks", Panyard.NONE, x.rank(b));
                CHECK.refused("seat", Check.INDEX, Panyard::new, y -> y.seat(band, 0));
                CHECK.refused("place", Check.INDEX, Panyard::new, y -> y.change(band, 0, 0));
            }
            CHECK.refused("pan", Check.INDEX, Panyard::new, y -> y.isInTune(0));
            CHECK.refused("player", Check.INDEX, Panyard::new, y -> y.ofPlayer(0, 0));
            x.pan(1, 1, 1, 1);
            x.pass(1);
            CHECK.refused("pan of another object", Check.INDEX, Panyard::new, y -> y.isInTune(0));
            CHECK.same("the night of another object", 0, new Panyard().night());
        });
    }

    private static void pan() {
        CHECK.test(2, "Makes a PAN; the four arguments are the TONES of its FIELDS.", () -> {
            int[][] told = {{-60, 60, 59, -59}, {60, -60, -59, 59}, {1, 2, 3, 4}, {0, 0, 0, 0}};
            Panyard x = new Panyard();
            for (int p = 0; p < told.length; p++) {
                x.pan(told[p][0], told[p][1], told[p][2], told[p][3]);
            }
            for (int i = 0; i < 16; i++) {
                CHECK.same("tone " + i, told[i / 4][i % 4], x.field(i / 4, i % 4, 0));
                CHECK.same("blows", 0, x.field(i / 4, i % 4, 2));
                CHECK.same("sunk", 0, x.field(i / 4, i % 4, 3));
                CHECK.same("cracked", 0, x.field(i / 4, i % 4, 4));
            }
        });
        CHECK.range(2, "- `first`: -60 to 60", Check.ARGUMENT, -60, 60, Panyard::new,
                (y, v) -> y.pan(v, 0, 0, 0));
        CHECK.range(2, "- `second`: -60 to 60", Check.ARGUMENT, -60, 60, Panyard::new,
                (y, v) -> y.pan(0, v, 0, 0));
        CHECK.range(2, "- `third`: -60 to 60", Check.ARGUMENT, -60, 60, Panyard::new,
                (y, v) -> y.pan(0, 0, v, 0));
        CHECK.range(2, "- `fourth`: -60 to 60", Check.ARGUMENT, -60, 60, Panyard::new,
                (y, v) -> y.pan(0, 0, 0, v));
        CHECK.test(2, "Throws `IllegalArgumentException` if one of these is out of its range", () -> {
            for (int i = 0; i < 4; i++) {
                int[] t = new int[4];
                t[i] = 61;
                CHECK.refused("one high", Check.ARGUMENT, Panyard::new,
                        y -> y.pan(t[0], t[1], t[2], t[3]));
                CHECK.refused("one low", Check.ARGUMENT, Panyard::new,
                        y -> y.pan(-t[0], -t[1], -t[2], -t[3]));
            }
            CHECK.refused("all high", Check.ARGUMENT, Panyard::new, y -> y.pan(61, 61, 61, 61));
            CHECK.refused("all low", Check.ARGUMENT, Panyard::new, y -> y.pan(-61, -61, -61, -61));
            CHECK.refused("one of each end", Check.ARGUMENT, Panyard::new,
                    y -> y.pan(60, -60, 61, -60));
            CHECK.refused("the last one", Check.ARGUMENT, () -> Yards.withPans(5),
                    y -> y.pan(60, -60, 60, -61));
            CHECK.refused("the first one", Check.ARGUMENT, () -> Yards.withPans(5),
                    y -> y.pan(61, 0, 0, 0));
        });
    }

    private static void sixPans() {
        CHECK.test(2, "Returns its number.", () -> {
            Panyard x = new Panyard();
            for (int p = 0; p < 6; p++) {
                CHECK.same("number", p, x.pan(p, 0, 0, 0));
            }
            for (int p = 0; p < 6; p++) {
                CHECK.same("the pan of that number", p, x.field(p, 0, 0));
            }
        });
        CHECK.test(2, "Throws `IllegalStateException` if there are 6", () -> {
            CHECK.refused("seventh", Check.STATE, () -> Yards.withPans(6), y -> y.pan(0, 0, 0, 0));
            CHECK.refused("seventh at the ends", Check.STATE, () -> Yards.withPans(6),
                    y -> y.pan(-60, 60, -60, 60));
            CHECK.same("the sixth", 5, Yards.withPans(5).pan(0, 0, 0, 0));
        });
        CHECK.test(2, "PANS are numbered from 0, at most 6;", () -> {
            CHECK.same("first", 0, new Panyard().pan(0, 0, 0, 0));
            CHECK.same("last", 5, Yards.withPans(5).pan(0, 0, 0, 0));
            CHECK.isSo("the last one is there", Yards.withPans(6).isInTune(0));
            CHECK.refused("a seventh", Check.STATE, () -> Yards.withPans(6),
                    y -> y.pan(1, 1, 1, 1));
            CHECK.beyond(Check.INDEX, 0, 5, () -> Yards.withPans(6), (y, v) -> y.isInTune(v));
        });
    }

    private static void blow() {
        CHECK.test(3, "Beats a FIELD.", () -> {
            Panyard x = Yards.withPans(3);
            x.blow(1, 2, 3, false);
            x.blow(1, 2, 3, true);
            for (int i = 0; i < 12; i++) {
                CHECK.same("blows on " + i, i == 6 ? 2 : 0, x.field(i / 4, i % 4, 2));
                CHECK.same("sunk " + i, i == 6 ? 1 : 0, x.field(i / 4, i % 4, 3));
            }
            CHECK.same("tone of another pan", 4, x.field(2, 2, 0));
        });
        CHECK.range(3, "- `pan`: a PAN", Check.INDEX, 0, 5, () -> Yards.withPans(6),
                (y, v) -> y.blow(v, 0, 1, true));
        CHECK.range(3, "- `field`: 0 to 3", Check.INDEX, 0, 3, () -> Yards.withPans(1),
                (y, v) -> y.blow(0, v, 1, true));
        CHECK.range(3, "- `force`: 1 to 4", Check.ARGUMENT, 1, 4, () -> Yards.withPans(1),
                (y, v) -> y.blow(0, 0, v, true));
        CHECK.range(3, "A BLOW is on a FIELD, with a force F, 1 to 4, and either RAISES or SINKS.",
                Check.ARGUMENT, 1, 4, () -> Yards.withPans(1), (y, v) -> y.blow(0, 3, v, false));
        CHECK.test(3, "- `isSink`: whether the BLOW SINKS; otherwise it RAISES", () -> {
            CHECK.same("sinks", -6, Yards.withPan(0, 0, 0, 0).blow(0, 0, 1, true));
            CHECK.same("raises", 4, Yards.withPan(0, 0, 0, 0).blow(0, 0, 1, false));
        });
        CHECK.test(3, "Returns the TONE of the FIELD then.", () -> {
            Panyard x = Yards.withPan(60, 0, -60, 0);
            x.heat(15);
            CHECK.same("above 60, not less the heat", 76, x.blow(0, 0, 4, false));
            CHECK.same("below -60, not less the heat", -84, x.blow(0, 2, 4, true));
            CHECK.same("it is that", -84, x.field(0, 2, 0));
            CHECK.same("0", 0, Yards.withPan(0, 6, 0, 0).blow(0, 1, 1, true));
        });
    }

    private static void blowRefused() {
        CHECK.test(3, "Throws `IndexOutOfBoundsException` if there is no such PAN or FIELD", () -> {
            CHECK.refused("no pan at all", Check.INDEX, Panyard::new, y -> y.blow(0, 0, 1, true));
            CHECK.beyond(Check.INDEX, 0, 1, () -> Yards.withPans(2),
                    (y, v) -> y.blow(v, 0, 1, false));
            CHECK.beyond(Check.INDEX, 0, 3, () -> Yards.withPans(2),
                    (y, v) -> y.blow(1, v, 1, false));
            CHECK.refused("neither", Check.INDEX, () -> Yards.withPans(2),
                    y -> y.blow(2, 4, 1, true));
        });
        CHECK.test(3, "Throws `IllegalArgumentException` if force is out of its range", () -> {
            CHECK.beyond(Check.ARGUMENT, 1, 4, () -> Yards.withPans(1),
                    (y, v) -> y.blow(0, 3, v, true));
            CHECK.beyond(Check.ARGUMENT, 1, 4, () -> Yards.withPans(1),
                    (y, v) -> y.blow(0, 3, v, false));
        });
        CHECK.test(3, "Throws `IllegalStateException` if the FIELD is CRACKED,"
                + " or was SUNK and would be RAISED", () -> {
            CHECK.refused("cracked, sinks", Check.STATE, () -> Yards.beaten(2, 7, false),
                    y -> y.blow(0, 2, 1, true));
            CHECK.refused("cracked, raises", Check.STATE, () -> Yards.beaten(2, 7, false),
                    y -> y.blow(0, 2, 1, false));
            CHECK.refused("sunk, raises", Check.STATE, () -> Yards.beaten(2, 1, true),
                    y -> y.blow(0, 2, 1, false));
            CHECK.refused("sunk and cracked", Check.STATE, () -> Yards.beaten(2, 7, true),
                    y -> y.blow(0, 2, 4, true));
            CHECK.same("sunk, sinks", -12, Yards.beaten(2, 1, true).blow(0, 2, 1, true));
            CHECK.same("raised, sinks", -2, Yards.beaten(2, 1, false).blow(0, 2, 1, true));
        });
    }

    private static void ring() {
        CHECK.test(3, "each has the FIELDS 0 to 3, in a ring: beside 0 are 1 and 3, and so on.", () -> {
            int[][] beside = {{1, 3}, {0, 2}, {1, 3}, {2, 0}};
            for (int f = 0; f < 4; f++) {
                Panyard x = Yards.withPan(0, 0, 0, 0);
                x.blow(0, f, 1, true);
                for (int other = 0; other < 4; other++) {
                    boolean isBeside = beside[f][0] == other || beside[f][1] == other;
                    int due = other == f ? -6 : isBeside ? 1 : 0;
                    CHECK.same("blow on " + f + ": tone of " + other, due, x.field(0, other, 0));
                }
            }
            CHECK.refused("no field -1", Check.INDEX, () -> Yards.withPans(6),
                    y -> y.blow(5, -1, 1, true));
            CHECK.refused("no field 4", Check.INDEX, () -> Yards.withPans(6),
                    y -> y.blow(0, 4, 1, true));
        });
    }

    private static void tones() {
        CHECK.test(3, "To RAISE makes the TONE of the FIELD 4 times F more, and that of each one"
                + " beside it F less; to SINK makes it 6 times F less, and that of each one beside"
                + " it F more.", () -> {
            for (int force = 1; force <= 4; force++) {
                for (int f = 0; f < 4; f++) {
                    moved(f, force, false, 4 * force, -force);
                    moved(f, force, true, -6 * force, force);
                }
            }
            Panyard x = Yards.withPan(60, -60, 0, 60);
            for (int b = 0; b < 7; b++) {
                x.blow(0, 0, 4, false);
                x.blow(0, 2, 4, true);
            }
            CHECK.same("high above 60", 60 + 7 * 16, x.field(0, 0, 0));
            CHECK.same("far below -60", -7 * 24, x.field(0, 2, 0));
            CHECK.same("one lower, one higher", -60, x.field(0, 1, 0));
            CHECK.same("one lower, one higher", 60, x.field(0, 3, 0));
        });
        CHECK.test(2, "A FIELD has a TONE, told at first, by how much it is too high;", () -> {
            Panyard x = Yards.withPan(-60, 60, 5, -5);
            CHECK.same("tone", -60, x.field(0, 0, 0));
            CHECK.same("tone", 60, x.field(0, 1, 0));
            CHECK.isSo("too high", !x.isInTune(0));
            CHECK.same("less too high", 54, x.blow(0, 1, 1, true));
        });
    }

    private static void moved(int field, int force, boolean isSink, int own, int beside) {
        Panyard x = Yards.withPan(10, 20, 30, 40);
        String what = "blow " + field + ", " + force + ", " + isSink;
        CHECK.same(what, 10 + 10 * field + own, x.blow(0, field, force, isSink));
        for (int f = 0; f < 4; f++) {
            int apart = Math.abs(f - field);
            int due = apart == 0 ? own : apart == 2 ? 0 : beside;
            CHECK.same(what + " tone of " + f, 10 + 10 * f + due, x.field(0, f, 0));
        }
    }

    private static void sunk() {
        CHECK.test(3, "A FIELD that was SUNK once cannot be RAISED any more.", () -> {
            for (int f = 0; f < 4; f++) {
                int field = f;
                for (int force = 1; force <= 4; force++) {
                    int by = force;
                    CHECK.refused("raised", Check.STATE, () -> Yards.beaten(field, 1, true),
                            y -> y.blow(0, field, by, false));
                }
                Panyard x = Yards.beaten(f, 1, true);
                CHECK.same("raised beside it", 4 + 1, x.blow(0, (f + 1) % 4, 1, false));
                CHECK.same("raised beside it", 4 + 1, x.blow(0, (f + 3) % 4, 1, false));
            }
            CHECK.refused("after raises and sinks", Check.STATE, () -> {
                Panyard x = Yards.beaten(1, 3, false);
                x.blow(0, 1, 1, true);
                x.blow(0, 1, 1, true);
                return x;
            }, y -> y.blow(0, 1, 1, false));
            CHECK.refused("nights later", Check.STATE, () -> {
                Panyard x = Yards.beaten(1, 1, true);
                x.heat(15);
                x.pass(30);
                return x;
            }, y -> y.blow(0, 1, 1, false));
            Panyard other = Yards.beaten(1, 1, true);
            other.pan(0, 0, 0, 0);
            CHECK.same("of another pan", 4, other.blow(1, 1, 1, false));
            Panyard lowered = Yards.withPan(0, 0, 0, 0);
            lowered.blow(0, 0, 4, false);
            CHECK.same("lowered by one beside it only", 0, lowered.blow(0, 1, 1, false));
        });
    }

    private static void cracked() {
        CHECK.test(3, "A FIELD with more than 6 BLOWS on it is CRACKED: it bears no more of them"
                + " (but its TONE is moved on by BLOWS beside it).", () -> {
            for (int times = 0; times <= 7; times++) {
                Panyard x = Yards.beaten(3, times, times % 2 == 0);
                CHECK.same("blows", times, x.field(0, 3, 2));
                CHECK.same("cracked by " + times, times > 6 ? 1 : 0, x.field(0, 3, 4));
                CHECK.same("cracked beside it", 0, x.field(0, 2, 4) + x.field(0, 0, 4));
            }
            CHECK.same("the seventh is borne", 28, Yards.beaten(3, 6, false).blow(0, 3, 1, false));
            CHECK.same("the seventh is borne", 18, Yards.beaten(3, 6, false).blow(0, 3, 1, true));
            CHECK.refused("the eighth", Check.STATE, () -> Yards.beaten(3, 7, false),
                    y -> y.blow(0, 3, 1, false));
            CHECK.refused("the eighth sinks", Check.STATE, () -> Yards.beaten(3, 7, true),
                    y -> y.blow(0, 3, 1, true));
            Panyard x = Yards.beaten(3, 7, false);
            x.blow(0, 0, 2, true);
            CHECK.same("moved on", 28 + 2, x.field(0, 3, 0));
            x.blow(0, 2, 3, false);
            CHECK.same("moved on", 28 + 2 - 3, x.field(0, 3, 0));
            x.blow(0, 1, 4, false);
            CHECK.same("not by the one across", 28 + 2 - 3, x.field(0, 3, 0));
            CHECK.same("its blows are as many", 7, x.field(0, 3, 2));
        });
    }

    private static void heat() {
        CHECK.test(4, "Sets the heat.", () -> {
            Panyard x = Yards.withPan(0, 1, 2, 3);
            x.heat(15);
            CHECK.same("cents", 3 - 15, x.field(0, 3, 1));
            x.heat(7);
            CHECK.same("cents, not by both", 3 - 7, x.field(0, 3, 1));
            x.heat(0);
            CHECK.same("cents", 3, x.field(0, 3, 1));
        });
        CHECK.range(4, "- `degrees`: 0 to 15", Check.ARGUMENT, 0, 15, () -> Yards.withPans(2),
                (y, v) -> y.heat(v));
        CHECK.test(4, "Returns what it was.", () -> {
            Panyard x = new Panyard();
            CHECK.same("at first", 0, x.heat(15));
            CHECK.same("then", 15, x.heat(0));
            CHECK.same("then", 0, x.heat(8));
            CHECK.same("the same again", 8, x.heat(8));
            CHECK.same("the same again", 8, x.heat(15));
        });
        CHECK.test(4, "Throws `IllegalArgumentException` if degrees is out of its range", () -> {
            CHECK.beyond(Check.ARGUMENT, 0, 15, Panyard::new, (y, v) -> y.heat(v));
            CHECK.beyond(Check.ARGUMENT, 0, 15, () -> {
                Panyard x = Yards.withPan(0, 0, 0, 0);
                x.heat(15);
                return x;
            }, (y, v) -> y.heat(v));
        });
    }

    private static void cents() {
        CHECK.test(4, "its CENTS are its TONE less the heat, which is 0 at first and counts for all"
                + " PANS alike.", () -> {
            Panyard x = Yards.withPan(-60, 60, 0, 1);
            CHECK.same("at first", 1, x.field(0, 3, 1));
            x.pan(5, 5, 5, 5);
            x.heat(15);
            x.pan(7, 7, 7, 7);
            int[] due = {-75, 45, -15, -14, -10, -10, -10, -10, -8, -8, -8, -8};
            for (int i = 0; i < 12; i++) {
                CHECK.same("cents " + i, due[i], x.field(i / 4, i % 4, 1));
                CHECK.same("tone " + i, due[i] + 15, x.field(i / 4, i % 4, 0));
            }
        });
    }

    private static void field() {
        CHECK.test(5, "Tells something of a FIELD.", () -> {
            Panyard x = Yards.withPan(10, -20, 30, -40);
            CHECK.changesNothing("asked", () -> Yards.withPans(2), y -> y.field(1, 2, 0));
            CHECK.same("a tone", -40, x.field(0, 3, 0));
        });
        CHECK.range(5, "- `pan`: a PAN", Check.INDEX, 0, 5, () -> Yards.withPans(6),
                (y, v) -> y.field(v, 0, 0));
        CHECK.range(5, "- `field`: 0 to 3", Check.INDEX, 0, 3, () -> Yards.withPans(1),
                (y, v) -> y.field(0, v, 0));
        CHECK.range(5, "- `what`: 0 its TONE, 1 its CENTS, 2 how many BLOWS were on it, 3 whether it"
                + " was SUNK, 4 whether it is CRACKED, 1 or 0", Check.ARGUMENT, 0, 4,
                () -> Yards.withPans(1), (y, v) -> y.field(0, 3, v));
        CHECK.test(5, "Returns that.", () -> {
            Panyard x = Yards.withPan(10, -20, 30, -40);
            x.heat(4);
            x.blow(0, 3, 2, true);
            for (int b = 0; b < 7; b++) {
                x.blow(0, 1, 1, false);
            }
            int[][] due = {{5, 1, 0, 0, 0}, {8, 4, 7, 0, 1}, {25, 21, 0, 0, 0}, {-52, -56, 1, 1, 0}};
            for (int i = 0; i < 20; i++) {
                CHECK.same("field " + i / 5 + ", " + i % 5, due[i / 5][i % 5],
                        x.field(0, i / 5, i % 5));
            }
        });
    }

    private static void fieldRefused() {
        CHECK.test(5, "Throws `IndexOutOfBoundsException` if there is no such PAN or FIELD", () -> {
            CHECK.refused("no pan at all", Check.INDEX, Panyard::new, y -> y.field(0, 0, 0));
            CHECK.beyond(Check.INDEX, 0, 1, () -> Yards.withPans(2), (y, v) -> y.field(v, 0, 4));
            CHECK.beyond(Check.INDEX, 0, 3, () -> Yards.withPans(2), (y, v) -> y.field(1, v, 4));
        });
        CHECK.test(5, "Throws `IllegalArgumentException` if what is out of its range", () -> {
            for (int f = 0; f < 4; f++) {
                int field = f;
                CHECK.beyond(Check.ARGUMENT, 0, 4, () -> Yards.withPans(2),
                        (y, v) -> y.field(1, field, v));
            }
        });
    }

    private static void isInTune() {
        CHECK.test(6, "Tells whether a PAN is IN TUNE.", () -> {
            CHECK.isSo("in tune", Yards.withPan(0, 0, 0, 0).isInTune(0));
            CHECK.isSo("not in tune", !Yards.withPan(60, 60, 60, 60).isInTune(0));
            CHECK.changesNothing("asked", () -> Yards.withPans(3), y -> y.isInTune(2));
        });
        CHECK.test(6, "A PAN is IN TUNE, if none of its FIELDS is CRACKED, and the CENTS of each are"
                + " from -5 to 5.", () -> {
            for (int i = 0; i < 4 * 13; i++) {
                int tone = i / 4 - 6;
                int[] t = new int[4];
                t[i % 4] = tone;
                Panyard x = Yards.withPan(t[0], t[1], t[2], t[3]);
                CHECK.isSo("at " + tone, x.isInTune(0) == (tone >= -5 && tone <= 5));
                x.heat(3);
                CHECK.isSo("at " + tone + " less 3", x.isInTune(0) == (tone >= -2));
            }
            CHECK.isSo("all at the high end", Yards.withPan(5, 5, 5, 5).isInTune(0));
            CHECK.isSo("all at the low end", Yards.withPan(-5, -5, -5, -5).isInTune(0));
            for (int f = 0; f < 4; f++) {
                Panyard x = beatenIntoTune(f);
                CHECK.isSo("six blows on " + f, x.isInTune(0));
                x.blow(0, f, 1, false);
                CHECK.same("cents with seven", 4, x.field(0, f, 1));
                CHECK.isSo("cracked " + f, !x.isInTune(0));
            }
        });
        CHECK.range(6, "- `pan`: a PAN", Check.INDEX, 0, 5, () -> Yards.withPans(6),
                (y, v) -> y.isInTune(v));
        CHECK.test(6, "Returns whether it is.", () -> {
            Panyard x = Yards.withPan(0, -12, 0, 18);
            CHECK.isSo("at first", !x.isInTune(0));
            for (int b = 0; b < 3; b++) {
                x.blow(0, 1, 1, false);
                x.blow(0, 3, 1, true);
            }
            CHECK.isSo("beaten", x.isInTune(0));
            x.heat(6);
            CHECK.isSo("heated", !x.isInTune(0));
        });
        CHECK.test(6, "Throws `IndexOutOfBoundsException` if there is no such PAN", () -> {
            CHECK.refused("no pan at all", Check.INDEX, Panyard::new, y -> y.isInTune(0));
            CHECK.beyond(Check.INDEX, 0, 0, () -> Yards.withPans(1), (y, v) -> y.isInTune(v));
        });
    }

    /** Six blows on one field; by a seventh it would still be within its cents. */
    private static Panyard beatenIntoTune(int field) {
        int[] t = new int[4];
        t[field] = -24;
        t[(field + 1) % 4] = 6;
        t[(field + 3) % 4] = 6;
        Panyard x = Yards.withPan(t[0], t[1], t[2], t[3]);
        for (int b = 0; b < 6; b++) {
            x.blow(0, field, 1, false);
        }
        return x;
    }

    private static void samePlan(String what, Panyard x, int length, int... numbers) {
        CHECK.same(what + " length", length, x.plan(0, 0));
        for (int place = 1; place <= 3; place++) {
            int due = place <= numbers.length ? numbers[place - 1] : Panyard.NONE;
            CHECK.same(what + " blow " + place, due, x.plan(0, place));
        }
    }

    private static void plan() {
        CHECK.test(7, "Tells of the PLAN of a PAN; nothing changes.", () -> {
            for (int place = 0; place <= 3; place++) {
                int at = place;
                CHECK.changesNothing("asked", () -> Yards.withPan(12, 12, 12, 0),
                        y -> y.plan(0, at));
                CHECK.changesNothing("asked in vain", () -> Yards.withPan(12, 12, 12, 12),
                        y -> y.plan(0, at));
            }
        });
        CHECK.range(7, "- `pan`: a PAN", Check.INDEX, 0, 5, () -> Yards.withPans(6),
                (y, v) -> y.plan(v, 0));
        CHECK.range(7, "- `place`: 0 to 3", Check.ARGUMENT, 0, 3, () -> Yards.withPans(1),
                (y, v) -> y.plan(0, v));
        CHECK.test(7, "Returns for 0 how many BLOWS it has, NONE if there is none of at most 3; for 1"
                + " to 3 the number of the BLOW of it at that place, from 1 on, NONE if it has not so"
                + " many, or there is none.", () -> {
            samePlan("of none", Yards.withPan(0, 0, 0, 0), 0);
            samePlan("of one", Yards.withPan(12, 0, 0, 0), 1, 3);
            samePlan("of two", Yards.withPan(15, 15, 0, 0), 2, 3, 11);
            samePlan("of three", Yards.withPan(12, 12, 12, 0), 3, 3, 11, 19);
            samePlan("none of at most three", Yards.withPan(12, 12, 12, 12), Panyard.NONE);
        });
        CHECK.test(7, "Throws `IndexOutOfBoundsException` if there is no such PAN", () -> {
            CHECK.refused("no pan at all", Check.INDEX, Panyard::new, y -> y.plan(0, 0));
            CHECK.beyond(Check.INDEX, 0, 0, () -> Yards.withPans(1), (y, v) -> y.plan(v, 3));
        });
        CHECK.test(7, "Throws `IllegalArgumentException` if place is out of its range", () -> {
            CHECK.beyond(Check.ARGUMENT, 0, 3, () -> Yards.withPan(12, 12, 12, 0),
                    (y, v) -> y.plan(0, v));
            CHECK.beyond(Check.ARGUMENT, 0, 3, () -> Yards.withPan(12, 12, 12, 12),
                    (y, v) -> y.plan(0, v));
        });
        CHECK.test(7, "The number of a BLOW is 8 times its FIELD, and 2 times (F less 1), and 1 if it"
                + " SINKS, together.", () -> {
            for (int f = 0; f < 4; f++) {
                for (int force = 1; force <= 4; force++) {
                    needsOne(f, -5 - 4 * force, 8 * f + 2 * (force - 1));
                    needsOne(f, 5 + 6 * force, 8 * f + 2 * (force - 1) + 1);
                }
            }
        });
    }

    private static void needsOne(int field, int tone, int number) {
        int[] t = new int[4];
        t[field] = tone;
        samePlan("at " + tone, Yards.withPan(t[0], t[1], t[2], t[3]), 1, number);
    }

    private static void planFewest() {
        CHECK.test(7, "by which it would be IN TUNE, with the heat of now: the fewest, 0 to 3;", () -> {
            samePlan("in tune at both ends", Yards.withPan(5, -5, 5, -5), 0);
            samePlan("just out at the high end", Yards.withPan(0, 0, 0, 12), 1, 27);
            samePlan("as far as one reaches", Yards.withPan(29, 0, 0, 0), 1, 7);
            samePlan("as far as one raises", Yards.withPan(-21, 0, 0, 0), 1, 6);
            samePlan("one further", Yards.withPan(-22, 0, 0, 0), 2, 0, 6);
            samePlan("as far as two reach", Yards.withPan(53, -8, 0, -8), 2, 7, 7);
            samePlan("four would do", Yards.withPan(12, 12, 12, 12), Panyard.NONE);
            samePlan("far off", Yards.withPan(60, 60, 60, 60), Panyard.NONE);
            samePlan("far off below", Yards.withPan(-60, -60, -60, -60), Panyard.NONE);
            Panyard x = Yards.withPan(12, 6, 9, 6);
            x.heat(10);
            samePlan("by the heat", x, 0);
            x.heat(0);
            CHECK.isSo("without it", x.plan(0, 0) != 0);
        });
        CHECK.test(7, "The PLAN of a PAN are the BLOWS, one behind the other,", () -> {
            Numbers numbers = new Numbers(7);
            int[] lengths = new int[5];
            for (int run = 0; run < 400; run++) {
                Panyard x = anyPan(numbers, run);
                int[] due = AllRows.planOf(x, 0);
                lengths[due == null ? 4 : due.length]++;
                samePlan("plan of run " + run, x, due == null ? Panyard.NONE : due.length,
                        due == null ? new int[0] : due);
            }
            for (int length = 0; length < lengths.length; length++) {
                CHECK.isSo("no plan of length " + length + " was met", lengths[length] > 0);
            }
        });
    }

    /** A pan that was beaten some times, but is not cracked. */
    private static Panyard anyPan(Numbers numbers, int run) {
        int span = 6 + run % 30;
        Panyard x = Yards.withPan(numbers.from(-span, span), numbers.from(-span, span),
                numbers.from(-span, span), numbers.from(-span, span));
        x.heat(numbers.from(0, 15) * (run % 2));
        for (int b = numbers.from(0, 12); b > 0; b--) {
            int field = run % 3 == 0 ? 1 : numbers.from(0, 3);
            boolean isSink = numbers.from(0, 2) == 0 || x.field(0, field, 3) == 1;
            if (x.field(0, field, 2) < 6) {
                x.blow(0, field, numbers.from(1, 2), isSink);
            }
        }
        return x;
    }

    private static void planBorne() {
        CHECK.test(7, "each of which the PAN bears then,", () -> {
            samePlan("at -6", Yards.withPan(-6, 5, 0, 5), 1, 0);
            samePlan("at -6, sunk", sunkAt(0, -6, 5, 0, 5), 1, 9);
            samePlan("none is sunk", Yards.withPan(-9, 0, -9, 0), 2, 0, 16);
            samePlan("the first of two is sunk", sunkAt(0, -9, 0, -9, 0), Panyard.NONE);
            samePlan("the second of two is sunk", sunkAt(2, -9, 0, -9, 0), Panyard.NONE);
            samePlan("sunk again", sunkAt(0, 9, 0, -9, 0), 2, 1, 16);
            samePlan("no raise behind a sink of the row", Yards.withPan(-5, 8, 5, 8), 2, 6, 1);
            samePlan("the sixth blow", raised(5, -6, 5, 0, 5), 1, 0);
            samePlan("the seventh blow would crack", raised(6, -6, 5, 0, 5), 1, 9);
            samePlan("the fifth and the sixth", raised(4, 53, -8, 0, -8), 2, 7, 7);
            samePlan("the seventh of a row would crack", raised(5, 53, -8, 0, -8), Panyard.NONE);
            samePlan("the seventh of a row would crack", raised(5, -22, 5, 0, 5), 2, 6, 9);
            samePlan("cracked", raised(7, 0, 0, 0, 0), Panyard.NONE);
        });
    }

    /** A pan with these tones behind one blow by which that field was sunk. */
    private static Panyard sunkAt(int field, int... tones) {
        tones[field] += 6;
        tones[(field + 1) % 4]--;
        tones[(field + 3) % 4]--;
        Panyard x = Yards.withPan(tones[0], tones[1], tones[2], tones[3]);
        x.blow(0, field, 1, true);
        return x;
    }

    /** A pan with these tones behind so many blows that raised its first field. */
    private static Panyard raised(int times, int first, int second, int third, int fourth) {
        Panyard x = Yards.withPan(first - 4 * times, second + times, third, fourth + times);
        for (int b = 0; b < times; b++) {
            x.blow(0, 0, 1, false);
        }
        return x;
    }

    private static void planLowest() {
        CHECK.test(7, "of several rows of as many the one with the lower number where they differ"
                + " first.", () -> {
            samePlan("a lower field beside it", Yards.withPan(0, 0, 0, 6), 1, 0);
            samePlan("one lowers those on both sides", Yards.withPan(0, 6, 0, 6), 1, 0);
            samePlan("the least force", Yards.withPan(24, 0, 0, 0), 1, 7);
            samePlan("the lower field first", Yards.withPan(15, 15, 0, 0), 2, 3, 11);
            samePlan("by the second one", Yards.withPan(6, 6, 0, 0), 2, 1, 9);
            samePlan("the lower force first", Yards.withPan(-22, 0, 0, 0), 2, 0, 6);
            samePlan("lower later ones count not", Yards.withPan(10, -10, 10, -10), 2, 10, 28);
            samePlan("of three", Yards.withPan(40, 0, 0, 0), 3, 3, 7, 16);
        });
    }
}
