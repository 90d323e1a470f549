import java.util.function.Supplier;

/** Promises 14 to 21 and what the terms say of songs, sentence by sentence. */
public final class SongsTest {
    private static final Check CHECK = new Check("SongsTest");
    private static final int UNKNOWN = Panyard.UNKNOWN, RIGHT = Panyard.RIGHT, WRONG = Panyard.WRONG;

    public static void main(String[] args) {
        note();
        phrases();
        change();
        changeRefused();
        spoiled();
        tell();
        tellRefused();
        drill();
        drillRefused();
        atOnce();
        rightOnes();
        wrongOnes();
        unknownOnes();
        inTwoBands();
        wornPans();
        onceANight();
        pass();
        seat();
        knows();
        ofBand();
        CHECK.finish(14, 21, "### Songs", "### Parts");
    }

    private static Panyard withBand(int seats, int notes) {
        return Yards.withBand(2, seats, notes);
    }

    private static void note() {
        CHECK.test(14, "Adds a NOTE to the song of a BAND.", () -> {
            Panyard x = withBand(1, 3);
            x.note(2, 11);
            CHECK.same("notes", 4, x.ofBand(2, 1));
            CHECK.same("notes of another one", 0, x.ofBand(1, 1));
            CHECK.same("the last one", 11, x.change(2, 3, 0));
            CHECK.same("the one ahead", 2, x.change(2, 2, 0));
        });
        CHECK.range(14, "- `band`: 0 to 3", Check.INDEX, 0, 3, Panyard::new, (y, v) -> y.note(v, 0));
        CHECK.range(14, "- `note`: 0 to 11", Check.ARGUMENT, 0, 11, () -> withBand(1, 5),
                (y, v) -> y.note(2, v));
        CHECK.test(14, "Returns how many it has then.", () -> {
            Panyard x = withBand(0, 0);
            for (int n = 1; n <= 24; n++) {
                CHECK.same("notes", n, x.note(2, 11 - n / 3));
            }
            CHECK.same("of another one", 1, x.note(3, 0));
        });
        CHECK.test(14, "Throws `IndexOutOfBoundsException` if there is no such BAND",
                () -> CHECK.beyond(Check.INDEX, 0, 3, () -> withBand(1, 5), (y, v) -> y.note(v, 0)));
        CHECK.test(14, "Throws `IllegalArgumentException` if note is out of its range", () -> {
            CHECK.beyond(Check.ARGUMENT, 0, 11, Panyard::new, (y, v) -> y.note(0, v));
            CHECK.beyond(Check.ARGUMENT, 0, 11, () -> withBand(0, 23), (y, v) -> y.note(2, v));
        });
        CHECK.test(14, "Throws `IllegalStateException` if it has 24", () -> {
            CHECK.refused("25th", Check.STATE, () -> withBand(1, 24), y -> y.note(2, 0));
            CHECK.refused("25th", Check.STATE, () -> withBand(1, 24), y -> y.note(2, 11));
            CHECK.same("24th", 24, withBand(1, 23).note(2, 0));
            CHECK.same("of another one", 1, withBand(1, 24).note(1, 0));
        });
        CHECK.test(14, "A BAND has a song of NOTES, 0 to 11, at most 24.", () -> {
            Panyard x = withBand(0, 24);
            for (int n = 0; n < 24; n++) {
                CHECK.same("note at " + n, n % 12, x.change(2, n, 11 - n % 12));
            }
            for (int n = 0; n < 24; n++) {
                CHECK.same("then at " + n, 11 - n % 12, x.change(2, n, 0));
            }
            CHECK.refused("25th", Check.STATE, () -> withBand(0, 24), y -> y.note(2, 0));
            CHECK.beyond(Check.ARGUMENT, 0, 11, () -> withBand(0, 0), (y, v) -> y.note(2, v));
        });
    }

    private static void phrases() {
        CHECK.test(14, "The PHRASE p, from 0, has the four NOTES from the place 4 times p on; there"
                + " are as many PHRASES as are whole.", () -> {
            for (int notes = 0; notes <= 24; notes++) {
                int whole = notes / 4;
                int length = notes;
                Panyard x = withBand(1, notes);
                CHECK.same("phrases of " + notes, whole, x.ofBand(2, 2));
                for (int p = 0; p < whole; p++) {
                    CHECK.same("told", UNKNOWN, x.tell(2, 0, p));
                }
                CHECK.beyond(Check.INDEX, 0, whole - 1, () -> withBand(1, length),
                        (y, v) -> y.knows(2, 0, v));
            }
            for (int place = 0; place < 24; place++) {
                Panyard x = withBand(1, 24);
                for (int p = 0; p < 6; p++) {
                    x.tell(2, 0, p);
                }
                x.change(2, place, (place + 1) % 12);
                for (int p = 0; p < 6; p++) {
                    CHECK.same("phrase " + p + " by a change at " + place,
                            p == place / 4 ? WRONG : RIGHT, x.knows(2, 0, p));
                }
            }
        });
    }

    private static void change() {
        CHECK.test(15, "Changes a NOTE of the song of a BAND, also one of a PHRASE that is not whole.",
                () -> {
            Panyard x = withBand(1, 23);
            x.change(2, 22, 5);
            CHECK.same("of none that is whole", 5, x.change(2, 22, 0));
            CHECK.same("the one ahead", 9, x.change(2, 21, 9));
            x.tell(2, 0, 4);
            x.change(2, 20, 0);
            CHECK.same("no phrase is spoiled", RIGHT, x.knows(2, 0, 4));
            x.note(2, 0);
            CHECK.same("nobody knows it when it is whole", UNKNOWN, x.knows(2, 0, 5));
            Panyard one = withBand(0, 1);
            one.change(2, 0, 11);
            CHECK.same("the only note", 11, one.change(2, 0, 11));
        });
        CHECK.range(15, "- `band`: 0 to 3", Check.INDEX, 0, 3, () -> {
            Panyard x = withBand(1, 4);
            x.note(0, 0);
            x.note(3, 0);
            return x;
        }, (y, v) -> y.change(v, 0, 1));
        CHECK.range(15, "- `place`: its place, from 0 on", Check.INDEX, 0, 23, () -> withBand(1, 24),
                (y, v) -> y.change(2, v, 5));
        CHECK.range(15, "- `note`: 0 to 11, perhaps the same", Check.ARGUMENT, 0, 11,
                () -> withBand(1, 12), (y, v) -> y.change(2, 11, v));
        CHECK.test(15, "Returns the one before.", () -> {
            Panyard x = withBand(1, 12);
            CHECK.same("first", 0, x.change(2, 0, 11));
            CHECK.same("then", 11, x.change(2, 0, 11));
            CHECK.same("the same again", 11, x.change(2, 0, 0));
            CHECK.same("last", 11, x.change(2, 11, 0));
        });
    }

    private static void changeRefused() {
        CHECK.test(15, "Throws `IndexOutOfBoundsException` if there is no such BAND, or the song has no"
                + " such place", () -> {
            CHECK.refused("no note at all", Check.INDEX, Panyard::new, y -> y.change(0, 0, 0));
            CHECK.beyond(Check.INDEX, 0, 3, () -> withBand(1, 4), (y, v) -> y.change(v, 0, 1));
            CHECK.beyond(Check.INDEX, 0, 12, () -> withBand(1, 13), (y, v) -> y.change(2, v, 1));
            CHECK.beyond(Check.INDEX, 0, 23, () -> withBand(1, 24), (y, v) -> y.change(2, v, 1));
        });
        CHECK.test(15, "Throws `IllegalArgumentException` if note is out of its range", () -> {
            Supplier<Panyard> known = () -> {
                Panyard x = withBand(1, 5);
                x.tell(2, 0, 0);
                return x;
            };
            CHECK.beyond(Check.ARGUMENT, 0, 11, known, (y, v) -> y.change(2, 0, v));
            CHECK.beyond(Check.ARGUMENT, 0, 11, known, (y, v) -> y.change(2, 4, v));
        });
    }

    private static void spoiled() {
        CHECK.test(15, "As a NOTE is changed into another one, all SEATS that KNEW its PHRASE RIGHT"
                + " KNOW it WRONG.", () -> {
            Panyard x = withBand(8, 14);
            for (int s = 0; s < 8; s++) {
                if (s % 7 == 0 || s == 3) {
                    x.tell(2, s, 1);
                }
            }
            x.tell(2, 0, 0);
            CHECK.same("into the same", 4, x.change(2, 4, 4));
            CHECK.same("it is right still", RIGHT, x.knows(2, 0, 1));
            x.change(2, 7, 0);
            for (int s = 0; s < 8; s++) {
                CHECK.same("seat " + s, s % 7 == 0 || s == 3 ? WRONG : UNKNOWN,
                        x.knows(2, s, 1));
            }
            CHECK.same("another phrase", RIGHT, x.knows(2, 0, 0));
            x.change(2, 7, 7);
            CHECK.same("changed back, wrong still", WRONG, x.knows(2, 0, 1));
            x.tell(2, 0, 1);
            x.change(2, 8, 0);
            CHECK.same("the note behind it", RIGHT, x.knows(2, 0, 1));
            x.change(2, 3, 0);
            CHECK.same("the note ahead of it", RIGHT, x.knows(2, 0, 1));
            CHECK.same("which is the other phrase's", WRONG, x.knows(2, 0, 0));
            Panyard two = withBand(1, 4);
            two.join(0, 3);
            for (int n = 0; n < 4; n++) {
                two.note(3, n);
            }
            two.tell(3, 0, 0);
            two.change(2, 0, 5);
            CHECK.same("in another band", RIGHT, two.knows(3, 0, 0));
        });
    }

    private static void tell() {
        CHECK.test(16, "Tells a PHRASE to a SEAT.", () -> {
            Panyard x = withBand(3, 11);
            x.tell(2, 1, 1);
            for (int i = 0; i < 6; i++) {
                CHECK.same("seat " + i / 2 + ", phrase " + i % 2, i == 3 ? RIGHT : UNKNOWN,
                        x.knows(2, i / 2, i % 2));
            }
        });
        CHECK.range(16, "- `band`: 0 to 3", Check.INDEX, 0, 3, () -> SongsTest.allBands(),
                (y, v) -> y.tell(v, 0, 0));
        CHECK.range(16, "- `seat`: a SEAT of it", Check.INDEX, 0, 7, () -> withBand(8, 4),
                (y, v) -> y.tell(2, v, 0));
        CHECK.range(16, "- `phrase`: a PHRASE of it", Check.INDEX, 0, 5, () -> withBand(1, 24),
                (y, v) -> y.tell(2, 0, v));
        CHECK.test(16, "Returns what it KNEW: UNKNOWN, RIGHT or WRONG.", () -> {
            Panyard x = withBand(2, 4);
            CHECK.same("first", UNKNOWN, x.tell(2, 1, 0));
            CHECK.same("again", RIGHT, x.tell(2, 1, 0));
            x.change(2, 3, 0);
            CHECK.same("when wrong", WRONG, x.tell(2, 1, 0));
            CHECK.same("the other one", UNKNOWN, x.tell(2, 0, 0));
        });
        CHECK.test(16, "Who is told a PHRASE KNOWS it RIGHT.", () -> {
            Panyard x = withBand(2, 4);
            x.join(0, 0);
            x.tell(2, 0, 0);
            CHECK.same("unknown ahead, in two bands", RIGHT, x.knows(2, 0, 0));
            x.tell(2, 0, 0);
            CHECK.same("right ahead", RIGHT, x.knows(2, 0, 0));
            x.change(2, 0, 11);
            x.tell(2, 0, 0);
            CHECK.same("wrong ahead", RIGHT, x.knows(2, 0, 0));
        });
    }

    /** One player in each band, whose song has one phrase. */
    private static Panyard allBands() {
        Panyard x = Yards.withPlayers(4);
        for (int i = 0; i < 16; i++) {
            x.note(i % 4, 5);
        }
        for (int b = 0; b < 4; b++) {
            x.join(b, b);
        }
        return x;
    }

    private static void tellRefused() {
        CHECK.test(16, "Throws `IndexOutOfBoundsException` if there is no such BAND, SEAT or PHRASE",
                () -> {
            CHECK.refused("nothing at all", Check.INDEX, Panyard::new, y -> y.tell(0, 0, 0));
            CHECK.beyond(Check.INDEX, 0, 3, () -> allBands(), (y, v) -> y.tell(v, 0, 0));
            CHECK.beyond(Check.INDEX, 0, 1, () -> withBand(2, 11), (y, v) -> y.tell(2, v, 0));
            CHECK.beyond(Check.INDEX, 0, 1, () -> withBand(2, 11), (y, v) -> y.tell(2, 0, v));
            CHECK.refused("no phrase is whole", Check.INDEX, () -> withBand(2, 3),
                    y -> y.tell(2, 0, 0));
            CHECK.refused("no seat", Check.INDEX, () -> withBand(0, 4), y -> y.tell(2, 0, 0));
        });
    }

    /** The seats of band 2 know phrase 0 so; those players are in band 0 too. */
    private static Panyard knowing(int[] known, boolean... inTwo) {
        Panyard x = withBand(known.length, 8);
        for (int s = 0; s < known.length; s++) {
            if (known[s] == WRONG) {
                x.tell(2, s, 0);
            }
            if (s < inTwo.length && inTwo[s]) {
                x.join(s, 0);
            }
        }
        x.change(2, 0, 11);
        for (int s = 0; s < known.length; s++) {
            if (known[s] == RIGHT) {
                x.tell(2, s, 0);
            }
        }
        return x;
    }

    private static int[] row(int... known) {
        return known;
    }

    private static void sameKnown(String what, Panyard x, int... due) {
        for (int s = 0; s < due.length; s++) {
            CHECK.same(what + ": seat " + s, due[s], x.knows(2, s, 0));
        }
    }

    /** They know that after one drill, and so many of them right. */
    private static void drilled(String what, Panyard x, int... due) {
        int right = 0;
        for (int known : due) {
            right += known == RIGHT ? 1 : 0;
        }
        CHECK.same(what + ": right", right, x.drill(2, 0));
        sameKnown(what, x, due);
    }

    private static void drill() {
        CHECK.test(17, "A BAND has a DRILL.", () -> {
            Panyard x = withBand(2, 8);
            x.tell(2, 0, 1);
            x.drill(2, 1);
            CHECK.same("learnt", RIGHT, x.knows(2, 1, 1));
            CHECK.same("another phrase", UNKNOWN, x.knows(2, 1, 0));
            CHECK.same("a drill in this night", 1, x.ofBand(2, 4));
        });
        CHECK.range(17, "- `band`: 0 to 3", Check.INDEX, 0, 3, () -> allBands(),
                (y, v) -> y.drill(v, 0));
        CHECK.range(17, "- `phrase`: a PHRASE of it", Check.INDEX, 0, 5, () -> withBand(1, 24),
                (y, v) -> y.drill(2, v));
        CHECK.test(17, "Returns how many SEATS KNOW it RIGHT then.", () -> {
            CHECK.same("none", 0, withBand(8, 4).drill(2, 0));
            Panyard x = withBand(8, 8);
            for (int s = 0; s < 8; s++) {
                x.tell(2, s, 0);
            }
            CHECK.same("none of the other phrase", 0, x.drill(2, 1));
            x.pass(1);
            CHECK.same("all", 8, x.drill(2, 0));
            CHECK.same("the new one too", 2, knowing(row(RIGHT, UNKNOWN)).drill(2, 0));
            CHECK.same("not the wrong one", 1, knowing(row(RIGHT, WRONG)).drill(2, 0));
        });
    }

    private static Panyard drilledBand() {
        Panyard x = withBand(3, 8);
        x.pan(0, 0, 0, 0);
        x.give(0, 0);
        x.tell(2, 0, 0);
        x.drill(2, 1);
        return x;
    }

    private static void drillRefused() {
        CHECK.test(17, "Throws `IndexOutOfBoundsException` if there is no such BAND or PHRASE", () -> {
            CHECK.refused("nothing at all", Check.INDEX, Panyard::new, y -> y.drill(0, 0));
            CHECK.beyond(Check.INDEX, 0, 3, () -> allBands(), (y, v) -> y.drill(v, 0));
            CHECK.beyond(Check.INDEX, 0, 1, () -> withBand(2, 8), (y, v) -> y.drill(2, v));
            CHECK.refused("no phrase is whole", Check.INDEX, () -> withBand(2, 3),
                    y -> y.drill(2, 0));
            CHECK.refused("the phrase is not whole", Check.INDEX, () -> withBand(2, 23),
                    y -> y.drill(2, 5));
        });
        CHECK.test(17, "Throws `IllegalStateException` if it has no SEATS, or had a DRILL in this night",
                () -> {
            CHECK.refused("no seats", Check.STATE, () -> withBand(0, 8), y -> y.drill(2, 0));
            CHECK.refused("no seats any more", Check.STATE, () -> {
                Panyard x = withBand(1, 8);
                x.leave(0, 2);
                return x;
            }, y -> y.drill(2, 0));
            CHECK.refused("a drill, of another phrase", Check.STATE, () -> drilledBand(),
                    y -> y.drill(2, 0));
            CHECK.refused("a drill, of the same one", Check.STATE, () -> drilledBand(),
                    y -> y.drill(2, 1));
            CHECK.refused("a drill, by others", Check.STATE, () -> {
                Panyard x = withBand(1, 8);
                x.drill(2, 0);
                x.leave(0, 2);
                x.player(0);
                x.join(1, 2);
                return x;
            }, y -> y.drill(2, 0));
            CHECK.same("one seat is enough", 0, withBand(1, 8).drill(2, 0));
        });
    }

    private static void atOnce() {
        CHECK.test(17, "In a DRILL of a PHRASE all SEATS of the BAND change at once, by what each KNEW"
                + " ahead of it:", () -> {
            drilled("upward one seat only", knowing(row(RIGHT, UNKNOWN, UNKNOWN, UNKNOWN)),
                    RIGHT, RIGHT, UNKNOWN, UNKNOWN);
            drilled("downward one seat only", knowing(row(UNKNOWN, UNKNOWN, UNKNOWN, RIGHT)),
                    UNKNOWN, UNKNOWN, RIGHT, RIGHT);
            drilled("none helps the next one", knowing(row(RIGHT, WRONG, WRONG, RIGHT)),
                    RIGHT, WRONG, WRONG, RIGHT);
            drilled("one learns as another is mended", knowing(row(RIGHT, WRONG, RIGHT)),
                    RIGHT, RIGHT, RIGHT);
            drilled("by what was wrong ahead", knowing(row(RIGHT, UNKNOWN, WRONG, RIGHT)),
                    RIGHT, RIGHT, WRONG, RIGHT);
            Panyard x = knowing(row(RIGHT, UNKNOWN, UNKNOWN, UNKNOWN, UNKNOWN, UNKNOWN, UNKNOWN,
                    UNKNOWN));
            for (int night = 1; night < 8; night++) {
                CHECK.same("right after " + night, night + 1, x.drill(2, 0));
                x.pass(1);
            }
        });
    }

    private static void rightOnes() {
        CHECK.test(17, "one that KNOWS it RIGHT keeps it;", () -> {
            drilled("among wrong ones", knowing(row(WRONG, RIGHT, WRONG)), WRONG, RIGHT, WRONG);
            drilled("alone", knowing(row(RIGHT)), RIGHT);
            drilled("in two bands", knowing(row(UNKNOWN, RIGHT, RIGHT), false, true, true),
                    RIGHT, RIGHT, RIGHT);
            Panyard x = knowing(row(UNKNOWN, RIGHT, UNKNOWN));
            x.drill(2, 1);
            sameKnown("in a drill of another phrase", x, UNKNOWN, RIGHT, UNKNOWN);
        });
    }

    private static void wrongOnes() {
        CHECK.test(17, "one that KNOWS it WRONG KNOWS it RIGHT, if the SEATS one lower and one higher"
                + " are both there and KNOW it RIGHT;", () -> {
            for (int lower = UNKNOWN; lower <= WRONG; lower++) {
                for (int higher = UNKNOWN; higher <= WRONG; higher++) {
                    Panyard x = knowing(row(lower, WRONG, higher));
                    x.drill(2, 0);
                    CHECK.same("between " + lower + " and " + higher,
                            lower == RIGHT && higher == RIGHT ? RIGHT : WRONG, x.knows(2, 1, 0));
                }
            }
            drilled("none lower", knowing(row(WRONG, RIGHT, RIGHT)), WRONG, RIGHT, RIGHT);
            drilled("none higher", knowing(row(RIGHT, RIGHT, WRONG)), RIGHT, RIGHT, WRONG);
            drilled("none lower of two", knowing(row(WRONG, RIGHT)), WRONG, RIGHT);
            drilled("none higher of two", knowing(row(RIGHT, WRONG)), RIGHT, WRONG);
            drilled("neither", knowing(row(WRONG)), WRONG);
            drilled("of eight", knowing(row(WRONG, RIGHT, WRONG, RIGHT, WRONG, RIGHT, RIGHT, WRONG)),
                    WRONG, RIGHT, RIGHT, RIGHT, RIGHT, RIGHT, RIGHT, WRONG);
        });
    }

    private static void unknownOnes() {
        CHECK.test(17, "one to which it is UNKNOWN learns it as the SEAT one lower KNOWS it, if that"
                + " KNOWS it RIGHT or WRONG, otherwise as the one higher (UNKNOWN, if there is none);",
                () -> {
            for (int lower = UNKNOWN; lower <= WRONG; lower++) {
                for (int higher = UNKNOWN; higher <= WRONG; higher++) {
                    Panyard x = knowing(row(lower, UNKNOWN, higher));
                    x.drill(2, 0);
                    CHECK.same("between " + lower + " and " + higher,
                            lower == UNKNOWN ? higher : lower, x.knows(2, 1, 0));
                }
            }
            drilled("none lower, right", knowing(row(UNKNOWN, RIGHT)), RIGHT, RIGHT);
            drilled("none lower, wrong", knowing(row(UNKNOWN, WRONG)), WRONG, WRONG);
            drilled("none higher, right", knowing(row(RIGHT, UNKNOWN)), RIGHT, RIGHT);
            drilled("none higher, wrong", knowing(row(WRONG, UNKNOWN)), WRONG, WRONG);
            drilled("neither", knowing(row(UNKNOWN)), UNKNOWN);
            drilled("no ring by the first", knowing(row(UNKNOWN, UNKNOWN, RIGHT)),
                    UNKNOWN, RIGHT, RIGHT);
            drilled("no ring by the last", knowing(row(RIGHT, UNKNOWN, UNKNOWN)),
                    RIGHT, RIGHT, UNKNOWN);
            drilled("of eight", knowing(row(UNKNOWN, UNKNOWN, WRONG, UNKNOWN, RIGHT, UNKNOWN, UNKNOWN,
                    UNKNOWN)), UNKNOWN, WRONG, WRONG, WRONG, RIGHT, RIGHT, UNKNOWN, UNKNOWN);
        });
        CHECK.test(20, "Of each PHRASE a SEAT KNOWS nothing (UNKNOWN, at first), or it KNOWS it RIGHT"
                + " or WRONG.", () -> {
            Panyard x = withBand(8, 24);
            for (int i = 0; i < 48; i++) {
                CHECK.same("at first", UNKNOWN, x.knows(2, i / 6, i % 6));
            }
            for (int p = 0; p < 6; p++) {
                x.tell(2, p, p);
                x.tell(2, p + 2, p);
                x.change(2, 4 * p, 11);
                x.tell(2, p, p);
            }
            for (int i = 0; i < 48; i++) {
                int due = i / 6 == i % 6 ? RIGHT : i / 6 == i % 6 + 2 ? WRONG : UNKNOWN;
                CHECK.same("each of its own", due, x.knows(2, i / 6, i % 6));
            }
        });
    }

    private static void inTwoBands() {
        CHECK.test(17, "but what one to which it was UNKNOWN would so learn RIGHT it learns WRONG, if"
                + " its PLAYER is in two BANDS then", () -> {
            drilled("right of the lower one", knowing(row(RIGHT, UNKNOWN), false, true),
                    RIGHT, WRONG);
            drilled("right of the higher one", knowing(row(UNKNOWN, RIGHT), true), WRONG, RIGHT);
            drilled("wrong", knowing(row(WRONG, UNKNOWN), false, true), WRONG, WRONG);
            drilled("unknown", knowing(row(UNKNOWN, UNKNOWN, WRONG), true, true),
                    UNKNOWN, WRONG, WRONG);
            drilled("the teacher is in two", knowing(row(RIGHT, UNKNOWN), true), RIGHT, RIGHT);
            Panyard left = knowing(row(RIGHT, UNKNOWN), false, true);
            left.leave(1, 0);
            drilled("in one again", left, RIGHT, RIGHT);
            Panyard one = knowing(row(RIGHT, UNKNOWN));
            one.join(0, 3);
            one.player(0);
            one.join(2, 3);
            drilled("others are in others", one, RIGHT, RIGHT);
        });
        CHECK.test(17, "(one that KNEW it WRONG KNOWS it RIGHT as told above, in however many BANDS its"
                + " PLAYER is).", () -> {
            drilled("in two", knowing(row(RIGHT, WRONG, RIGHT), false, true), RIGHT, RIGHT, RIGHT);
            drilled("all in two", knowing(row(RIGHT, WRONG, RIGHT), true, true, true),
                    RIGHT, RIGHT, RIGHT);
            drilled("in one", knowing(row(RIGHT, WRONG, RIGHT)), RIGHT, RIGHT, RIGHT);
        });
    }

    private static void wornPans() {
        CHECK.test(17, "Also, each PAN of a PLAYER in the BAND has the TONES of all its FIELDS 1 less"
                + " by the DRILL.", () -> {
            Panyard x = withBand(3, 8);
            for (int p = 0; p < 5; p++) {
                x.pan(10, 60, 0, -60);
            }
            x.player(0);
            x.give(0, 3);
            x.give(2, 1);
            x.give(3, 2);
            for (int b = 0; b < 7; b++) {
                x.blow(1, 0, 1, true);
            }
            int[] before = new int[20];
            for (int i = 0; i < 20; i++) {
                before[i] = x.field(i / 4, i % 4, 0);
            }
            x.drill(2, 1);
            for (int i = 0; i < 20; i++) {
                int worn = i / 4 == 1 || i / 4 == 3 ? 1 : 0;
                CHECK.same("tone " + i, before[i] - worn, x.field(i / 4, i % 4, 0));
                CHECK.same("blows " + i, i == 4 ? 7 : 0, x.field(i / 4, i % 4, 2));
                CHECK.same("sunk " + i, i == 4 ? 1 : 0, x.field(i / 4, i % 4, 3));
            }
        });
        CHECK.test(17, "each PAN of a PLAYER in the BAND", () -> {
            Panyard x = allBands();
            x.join(0, 1);
            x.pan(-5, -5, -5, -5);
            x.give(0, 0);
            x.drill(0, 0);
            CHECK.same("by one band", -6, x.field(0, 3, 0));
            x.drill(1, 0);
            CHECK.same("by the other one too", -7, x.field(0, 3, 0));
            x.drill(2, 0);
            CHECK.same("not by another one", -7, x.field(0, 3, 0));
            x.leave(0, 1);
            x.pass(1);
            x.drill(1, 0);
            CHECK.same("left", -7, x.field(0, 3, 0));
            x.takeBack(0);
            x.drill(0, 0);
            CHECK.same("taken back", -7, x.field(0, 3, 0));
        });
    }

    private static void onceANight() {
        CHECK.test(17, "A BAND has one DRILL a night.", () -> {
            CHECK.refused("twice", Check.STATE, () -> drilledBand(), y -> y.drill(2, 0));
            Panyard x = allBands();
            for (int b = 0; b < 4; b++) {
                CHECK.same("each band has one", 0, x.drill(b, 0));
            }
            x.pass(1);
            CHECK.same("and one in the next night", 0, x.drill(3, 0));
            x.pass(30);
            CHECK.same("and one in a later one", 0, x.drill(3, 0));
            Panyard last = Yards.atNight(allBands(), 1000);
            CHECK.same("and one in the last one", 0, last.drill(0, 0));
        });
    }

    private static void pass() {
        CHECK.test(18, "Lets nights go by.", () -> {
            Panyard x = drilledBand();
            x.pass(2);
            CHECK.same("the night", 2, x.night());
            CHECK.same("no drill yet", 0, x.ofBand(2, 4));
        });
        CHECK.range(18, "- `nights`: 1 to 30", Check.ARGUMENT, 1, 30,
                () -> Yards.atNight(new Panyard(), 5), (y, v) -> y.pass(v));
        CHECK.test(18, "Returns the night then.", () -> {
            Panyard x = new Panyard();
            CHECK.same("first", 1, x.pass(1));
            CHECK.same("then", 31, x.pass(30));
            CHECK.same("then", 60, x.pass(29));
        });
        CHECK.test(18, "Throws `IllegalArgumentException` if nights is out of its range", () -> {
            CHECK.beyond(Check.ARGUMENT, 1, 30, () -> drilledBand(), (y, v) -> y.pass(v));
            CHECK.beyond(Check.ARGUMENT, 1, 30, () -> Yards.atNight(new Panyard(), 985),
                    (y, v) -> y.pass(v));
        });
        CHECK.test(18, "Throws `IllegalStateException` if it would be above 1000", () -> {
            for (int nights = 1; nights <= 30; nights++) {
                int by = nights;
                CHECK.same("to 1000", 1000, Yards.atNight(new Panyard(), 1000 - by).pass(by));
                CHECK.refused("to 1001", Check.STATE,
                        () -> Yards.atNight(new Panyard(), 1001 - by), y -> y.pass(by));
            }
            CHECK.refused("to 1030", Check.STATE, () -> Yards.atNight(new Panyard(), 1000),
                    y -> y.pass(30));
        });
    }

    private static void seat() {
        CHECK.test(19, "Returns the PLAYER of a SEAT.",
                () -> CHECK.changesNothing("asked", () -> withBand(3, 4), y -> y.seat(2, 2)));
        CHECK.range(19, "- `band`: 0 to 3", Check.INDEX, 0, 3, () -> allBands(),
                (y, v) -> y.seat(v, 0));
        CHECK.range(19, "- `seat`: a SEAT of it", Check.INDEX, 0, 7, () -> withBand(8, 0),
                (y, v) -> y.seat(2, v));
        CHECK.test(19, "Returns the PLAYER.", () -> {
            Panyard x = withBand(8, 0);
            x.join(6, 0);
            for (int s = 0; s < 8; s++) {
                CHECK.same("player", s, x.seat(2, s));
            }
            CHECK.same("player elsewhere", 6, x.seat(0, 0));
        });
        CHECK.test(19, "Throws `IndexOutOfBoundsException` if there is no such BAND or SEAT", () -> {
            CHECK.refused("no seat at all", Check.INDEX, Panyard::new, y -> y.seat(0, 0));
            CHECK.beyond(Check.INDEX, 0, 3, () -> allBands(), (y, v) -> y.seat(v, 0));
            CHECK.beyond(Check.INDEX, 0, 2, () -> withBand(3, 0), (y, v) -> y.seat(2, v));
        });
    }

    private static void knows() {
        CHECK.test(20, "Returns what a SEAT KNOWS of a PHRASE.", () -> CHECK.changesNothing("asked",
                () -> knowing(row(RIGHT, WRONG)), y -> y.knows(2, 1, 0)));
        CHECK.range(20, "- `band`: 0 to 3", Check.INDEX, 0, 3, () -> allBands(),
                (y, v) -> y.knows(v, 0, 0));
        CHECK.range(20, "- `seat`: a SEAT of it", Check.INDEX, 0, 7, () -> withBand(8, 4),
                (y, v) -> y.knows(2, v, 0));
        CHECK.range(20, "- `phrase`: a PHRASE of it", Check.INDEX, 0, 5, () -> withBand(1, 24),
                (y, v) -> y.knows(2, 0, v));
        CHECK.test(20, "Returns UNKNOWN, RIGHT or WRONG.",
                () -> sameKnown("each", knowing(row(UNKNOWN, RIGHT, WRONG)), 0, 1, 2));
        CHECK.test(20, "Throws `IndexOutOfBoundsException` if there is no such BAND, SEAT or PHRASE",
                () -> {
            CHECK.refused("nothing at all", Check.INDEX, Panyard::new, y -> y.knows(0, 0, 0));
            CHECK.beyond(Check.INDEX, 0, 3, () -> allBands(), (y, v) -> y.knows(v, 0, 0));
            CHECK.beyond(Check.INDEX, 0, 1, () -> withBand(2, 11), (y, v) -> y.knows(2, v, 0));
            CHECK.beyond(Check.INDEX, 0, 1, () -> withBand(2, 11), (y, v) -> y.knows(2, 0, v));
            CHECK.refused("no phrase is whole", Check.INDEX, () -> withBand(2, 3),
                    y -> y.knows(2, 0, 0));
        });
    }

    private static void ofBand() {
        CHECK.test(21, "Tells something of a BAND.", () -> CHECK.changesNothing("asked",
                () -> knowing(row(RIGHT, WRONG)), y -> y.ofBand(2, 0)));
        CHECK.range(21, "- `band`: 0 to 3", Check.INDEX, 0, 3, Panyard::new,
                (y, v) -> y.ofBand(v, 0));
        CHECK.range(21, "- `what`: 0 how many SEATS, 1 how many NOTES, 2 how many PHRASES, 3 what was"
                + " HEARD, NONE if it did not perform, 4 whether it had a DRILL in this night, 1 or 0",
                Check.ARGUMENT, 0, 4, () -> withBand(3, 11), (y, v) -> y.ofBand(2, v));
        CHECK.test(21, "Returns that.", () -> {
            Panyard x = withBand(3, 11);
            sameOfBand("not performed, no drill", x, 3, 11, 2, Panyard.NONE, 0);
            x.drill(2, 0);
            sameOfBand("with a drill", x, 3, 11, 2, Panyard.NONE, 1);
            x.pass(1);
            sameOfBand("no drill in this night", x, 3, 11, 2, Panyard.NONE, 0);
            x.note(2, 0);
            x.leave(0, 2);
            sameOfBand("one left", x, 2, 12, 3, Panyard.NONE, 0);
            sameOfBand("performed", Yards.performed(10), 1, 4, 1, 13, 0);
        });
        CHECK.test(21, "Throws `IndexOutOfBoundsException` if there is no such BAND",
                () -> CHECK.beyond(Check.INDEX, 0, 3, () -> withBand(3, 11),
                        (y, v) -> y.ofBand(v, 5)));
        CHECK.test(21, "Throws `IllegalArgumentException` if what is out of its range",
                () -> CHECK.beyond(Check.ARGUMENT, 0, 4, () -> withBand(3, 11),
                        (y, v) -> y.ofBand(1, v)));
    }

    private static void sameOfBand(String what, Panyard x, int... due) {
        for (int of = 0; of < due.length; of++) {
            CHECK.same(what + ", " + of, due[of], x.ofBand(2, of));
        }
    }
}
