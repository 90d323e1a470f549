/** Promises 22 to 24 and what the terms say of parts, sentence by sentence. */
public final class PartsTest {
    private static final Check CHECK = new Check("PartsTest");
    private static final int[] FIFTHS_SPOTS = {0, 7, 2, 9, 4, 11, 6, 1, 8, 3, 10, 5};
    private static final int[] OLD_SPOTS = {0, 4, 8, 1, 5, 9, 2, 6, 10, 3, 7, 11};
    private static final int[] SONG = {0, 1, 2, 3, 4, 5, 6, 7, 8};

    public static void main(String[] args) {
        layouts();
        ring();
        whoPlays();
        insideAPhrase();
        betweenPhrases();
        best();
        lowest();
        ready();
        nothingChanges();
        leaps();
        part();
        without();
        withoutOne();
        CHECK.finish(22, 24, "### Parts", "### The night of all");
    }

    private static int[] row(int... numbers) {
        return numbers;
    }

    /** Band 1 with players of such layouts and that song; nobody knows it. */
    private static Panyard band(int[] layouts, int... song) {
        Panyard x = new Panyard();
        for (int p = 0; p < layouts.length; p++) {
            x.player(layouts[p]);
            x.join(p, 1);
        }
        for (int note : song) {
            x.note(1, note);
        }
        return x;
    }

    /** The same with the seats told the phrases: "02" for the phrases 0 and 2. */
    private static Panyard told(int[] layouts, int[] song, String... phrases) {
        Panyard x = band(layouts, song);
        for (int s = 0; s < phrases.length; s++) {
            for (char phrase : phrases[s].toCharArray()) {
                x.tell(1, s, phrase - '0');
            }
        }
        return x;
    }

    /** Players with the layout FIFTHS. */
    private static int[] fifths(int count) {
        return new int[count];
    }

    private static Panyard twoTold() {
        return told(row(Panyard.FIFTHS, Panyard.OLD), SONG, "01", "1");
    }

    private static void sameParts(String what, Panyard x, int leaps, int... seats) {
        CHECK.same(what + " leaps", leaps, x.leaps(1));
        for (int p = 0; p < seats.length; p++) {
            CHECK.same(what + " part of " + p, seats[p], x.part(1, p));
        }
    }

    private static void layouts() {
        CHECK.test(22, "On the LAYOUT FIFTHS the NOTE n lies at the remainder of 7 times n by 12, on"
                + " OLD at 4 times the remainder of n by 3, and n by 3, cut, together;", () -> {
            for (int i = 0; i < 144; i++) {
                leapIs(Panyard.FIFTHS, i / 12, i % 12,
                        around(FIFTHS_SPOTS[i / 12], FIFTHS_SPOTS[i % 12]));
                leapIs(Panyard.OLD, i / 12, i % 12, around(OLD_SPOTS[i / 12], OLD_SPOTS[i % 12]));
            }
        });
    }

    private static int around(int from, int to) {
        int up = Math.floorMod(to - from, 12);
        return up <= 6 ? up : 12 - up;
    }

    private static void leapIs(int layout, int from, int to, int due) {
        sameParts("on " + layout + " from " + from + " to " + to,
                told(row(layout), row(from, to, to, to), "0"), due, 0);
    }

    private static void ring() {
        CHECK.test(22, "the places 0 to 11 lie in a ring, and a LEAP from a NOTE to another one is how"
                + " many places they are apart by the shorter way.", () -> {
            int[] due = {0, 1, 2, 3, 4, 5, 6, 5, 4, 3, 2, 1};
            for (int apart = 0; apart < 12; apart++) {
                leapIs(Panyard.FIFTHS, 0, 7 * apart % 12, due[apart]);
                leapIs(Panyard.FIFTHS, 7 * apart % 12, 0, due[apart]);
            }
            leapIs(Panyard.FIFTHS, 0, 5, 1);
            leapIs(Panyard.FIFTHS, 5, 0, 1);
            leapIs(Panyard.OLD, 0, 11, 1);
            leapIs(Panyard.OLD, 11, 0, 1);
            leapIs(Panyard.FIFTHS, 0, 6, 6);
            leapIs(Panyard.OLD, 0, 6, 2);
            leapIs(Panyard.OLD, 0, 7, 6);
            leapIs(Panyard.OLD, 4, 4, 0);
        });
    }

    private static void whoPlays() {
        CHECK.test(23, "PARTS give each PHRASE, from 0 on, to a SEAT that KNOWS it RIGHT.", () -> {
            int[] song = new int[24];
            for (int n = 0; n < 24; n++) {
                song[n] = n / 4 % 2 * 6;
            }
            Panyard x = told(fifths(8), song, "0", "", "1", "2", "", "3", "4", "5");
            sameParts("each by another seat", x, 10, 0, 2, 3, 5, 6, 7);
            sameParts("all by the last seat", told(fifths(8), song, "", "", "", "", "", "", "",
                    "012345"), 30, 7, 7, 7, 7, 7, 7);
            Panyard wrong = told(fifths(2), row(0, 0, 0, 0), "0");
            wrong.change(1, 3, 7);
            wrong.tell(1, 1, 0);
            sameParts("not by one that knows it wrong", wrong, 1, 1);
        });
    }

    private static void insideAPhrase() {
        CHECK.test(22, "Their LEAPS are, for each PHRASE, those from each NOTE of it to the next one of"
                + " it, on the LAYOUT of that SEAT'S PLAYER, and,", () -> {
            sameParts("0 7 2 9", told(fifths(1), row(0, 7, 2, 9), "0"), 1 + 1 + 1, 0);
            sameParts("0 6 0 1", told(fifths(1), row(0, 6, 0, 1), "0"), 6 + 6 + 5, 0);
            sameParts("the first leap", told(fifths(1), row(6, 0, 0, 0), "0"), 6, 0);
            sameParts("the second leap", told(fifths(1), row(0, 0, 6, 6), "0"), 6, 0);
            sameParts("the third leap", told(fifths(1), row(0, 0, 0, 6), "0"), 6, 0);
            sameParts("on old", told(row(Panyard.OLD), row(0, 1, 2, 3), "0"), 4 + 4 + 5, 0);
            sameParts("each seat on its own layout", told(row(Panyard.FIFTHS, Panyard.OLD),
                    row(0, 0, 0, 1, 0, 0, 0, 1), "0", "1"), 5 + 2 + 4, 0, 1);
            sameParts("no leap into what is not whole",
                    told(fifths(1), row(0, 0, 0, 0, 6, 0, 6), "0"), 0, 0);
        });
    }

    private static void betweenPhrases() {
        CHECK.test(22, "for each PHRASE but the first, the LEAP from the NOTE ahead of it to its first"
                + " one, if the same SEAT plays the PHRASE ahead, otherwise 2; all together.", () -> {
            int[] two = {Panyard.FIFTHS, Panyard.OLD};
            int[] far = {0, 0, 0, 0, 6, 6, 6, 6};
            sameParts("one seat leaps", told(two, far, "01", ""), 6, 0, 0);
            sameParts("one seat leaps on old", told(two, far, "", "01"), 2, 1, 1);
            sameParts("two seats", told(two, far, "0", "1"), 2, 0, 1);
            sameParts("two seats, the higher one first", told(two, far, "1", "0"), 2, 1, 0);
            int[] near = {0, 0, 0, 0, 0, 0, 0, 0};
            sameParts("two seats, the same note", told(two, near, "0", "1"), 2, 0, 1);
            sameParts("one seat, the same note", told(two, near, "01", ""), 0, 0, 0);
            sameParts("from the last note", told(two, row(0, 0, 0, 7, 7, 7, 7, 7), "01"), 1, 0, 0);
            sameParts("to the first note", told(two, row(0, 0, 0, 0, 7, 0, 0, 0), "01"), 2, 0, 0);
            sameParts("none into the first", told(two, row(6, 6, 6, 6), "0"), 0, 0);
            int[] back = {0, 0, 0, 0, 1, 1, 1, 1, 0, 0, 0, 0};
            sameParts("there and back", told(fifths(3), back, "02", "1", ""), 4, 0, 1, 0);
            sameParts("to one and on", told(fifths(3), back, "0", "1", "2"), 4, 0, 1, 2);
        });
    }

    private static void best() {
        CHECK.test(22, "The best PARTS are those with the fewest LEAPS;", () -> {
            int[] song = new int[24];
            for (int n = 0; n < 24; n++) {
                song[n] = n / 4 % 2 * 6;
            }
            int[] layouts = {1, 0, 1, 0, 1, 0, 1, 0};
            Panyard x = told(layouts, song, "", "012345", "", "012345");
            sameParts("all hand on", x, 10, 1, 3, 1, 3, 1, 3);
            CHECK.same("one seat alone", 30, x.without(1, 3));
            sameParts("fewer leaps by the higher seat", told(row(Panyard.FIFTHS, Panyard.OLD),
                    row(0, 3, 0, 3), "0", "0"), 3, 1);
            sameParts("fewer, though the first phrase has more", told(row(Panyard.FIFTHS,
                    Panyard.OLD), row(0, 4, 4, 4, 4, 4, 4, 4), "0", "01"), 5, 1, 1);
            int[] late = {0, 0, 0, 0, 6, 6, 6, 6, 6, 6, 6, 6};
            sameParts("by the last phrase", told(fifths(3), late, "01", "", "12"), 2, 0, 2, 2);
        });
    }

    private static void lowest() {
        CHECK.test(23, "of several those with the lower SEAT where they differ first.", () -> {
            int[] flat = {3, 3, 3, 3, 3, 3, 3, 3};
            sameParts("all alike", told(fifths(3), flat, "01", "01", "01"), 0, 0, 0);
            sameParts("the lower one of two", told(fifths(3), flat, "0", "01", "01"), 0, 1, 1);
            int[] two = {0, 0, 0, 0, 2, 2, 2, 2};
            sameParts("stay or hand on", told(fifths(3), two, "0", "01", "01"), 2, 0, 1);
            sameParts("the first phrase first", told(fifths(3), two, "01", "01", ""), 2, 0, 0);
            sameParts("lower in the second", told(fifths(3), two, "1", "0", "01"), 2, 1, 0);
            int[] one = {0, 0, 0, 0, 7, 7, 7, 7};
            sameParts("fewer go ahead of lower", told(fifths(3), one, "0", "", "01"), 1, 2, 2);
            int[] late = {0, 0, 0, 0, 6, 6, 6, 6, 6, 6, 6, 6};
            sameParts("the lower one later", told(fifths(3), late, "01", "12", "12"), 2, 0, 1, 1);
            int[] leap = {0, 0, 0, 0, 0, 0, 0, 0, 2, 2, 2, 2};
            sameParts("the lower one in the second phrase goes ahead of the last one",
                    told(fifths(3), leap, "", "012", "012"), 2, 1, 1, 1);
        });
    }

    private static void ready() {
        CHECK.test(22, "A BAND is READY, if it has a PHRASE, and each PHRASE is KNOWN RIGHT by a SEAT.",
                () -> {
            CHECK.same("no note", Panyard.NONE, band(fifths(2)).leaps(1));
            CHECK.same("no whole phrase", Panyard.NONE, band(fifths(2), 0, 1, 2).leaps(1));
            CHECK.same("nobody knows", Panyard.NONE, band(fifths(2), SONG).leaps(1));
            CHECK.same("nobody there", Panyard.NONE, band(fifths(0), SONG).leaps(1));
            sameParts("the first one only", told(fifths(2), SONG, "0", "0"), Panyard.NONE, -1, -1);
            sameParts("the second one only", told(fifths(2), SONG, "1", "1"), Panyard.NONE, -1, -1);
            Panyard x = told(fifths(2), SONG, "0", "1");
            CHECK.isSo("each by another seat", x.leaps(1) != Panyard.NONE);
            x.change(1, 5, 0);
            sameParts("one is known wrong", x, Panyard.NONE, Panyard.NONE, Panyard.NONE);
            x.tell(1, 0, 1);
            CHECK.isSo("told again", x.leaps(1) != Panyard.NONE);
            x.change(1, 8, 0);
            CHECK.isSo("a change in none that is whole", x.leaps(1) != Panyard.NONE);
            x.leave(0, 1);
            sameParts("the one left", x, Panyard.NONE, Panyard.NONE, Panyard.NONE);
            Panyard longer = told(fifths(1), row(0, 0, 0, 0, 0, 0, 0), "0");
            CHECK.same("one whole phrase", 0, longer.leaps(1));
            longer.note(1, 0);
            CHECK.same("a new one that nobody knows", Panyard.NONE, longer.leaps(1));
            longer.tell(1, 0, 1);
            CHECK.same("told that", 0, longer.leaps(1));
        });
    }

    private static void nothingChanges() {
        String sentence = "---- parts; nothing changes.";
        CHECK.test(22, sentence, () -> {
            CHECK.changesNothing("asked", () -> twoTold(), y -> y.leaps(1));
            CHECK.changesNothing("not ready", () -> band(fifths(2), SONG), y -> y.leaps(1));
        });
        CHECK.test(23, sentence, () -> {
            CHECK.changesNothing("asked", () -> twoTold(), y -> y.part(1, 1));
            CHECK.changesNothing("not ready", () -> band(fifths(2), SONG), y -> y.part(1, 0));
        });
        CHECK.test(24, sentence, () -> {
            CHECK.changesNothing("without 0", () -> twoTold(), y -> y.without(1, 0));
            CHECK.changesNothing("without 1", () -> twoTold(), y -> y.without(1, 1));
            CHECK.changesNothing("performed", () -> Yards.performed(9), y -> y.without(2, 0));
        });
    }

    private static void leaps() {
        CHECK.test(22, "Returns the LEAPS of the best PARTS of a BAND.",
                () -> CHECK.same("leaps", 1 + 2 + 3, told(fifths(2), row(0, 7, 7, 7, 0, 0, 0, 3),
                        "0", "1").leaps(1)));
        CHECK.range(22, "- `band`: 0 to 3", Check.INDEX, 0, 3, () -> twoTold(), (y, v) -> y.leaps(v));
        CHECK.test(22, "Returns how many; NONE if it is not READY.", () -> {
            CHECK.same("of none", Panyard.NONE, twoTold().leaps(0));
            CHECK.same("none at all", 0, told(fifths(1), row(0, 0, 0, 0), "0").leaps(1));
            CHECK.same("as many as there can be", 6 * 23, farthest().leaps(1));
        });
        CHECK.test(22, "Throws `IndexOutOfBoundsException` if there is no such BAND",
                () -> CHECK.beyond(Check.INDEX, 0, 3, () -> twoTold(), (y, v) -> y.leaps(v)));
    }

    /** One seat that leaps to the other side of the ring by each note. */
    private static Panyard farthest() {
        int[] song = new int[24];
        for (int n = 0; n < 24; n++) {
            song[n] = n % 2 * 6;
        }
        return told(fifths(1), song, "012345");
    }

    private static void part() {
        CHECK.test(23, "Returns the SEAT that plays a PHRASE by the best PARTS of a BAND.",
                () -> CHECK.same("seat", 1, told(fifths(2), SONG, "0", "1").part(1, 1)));
        CHECK.range(23, "- `band`: 0 to 3", Check.INDEX, 0, 3, () -> {
            Panyard x = new Panyard();
            for (int n = 0; n < 16; n++) {
                x.note(n / 4, 0);
            }
            return x;
        }, (y, v) -> y.part(v, 0));
        CHECK.range(23, "- `phrase`: a PHRASE of it", Check.INDEX, 0, 5, () -> farthest(),
                (y, v) -> y.part(1, v));
        CHECK.test(23, "Returns the SEAT; NONE if the BAND is not READY.", () -> {
            Panyard x = told(fifths(8), SONG, "", "", "", "", "", "", "", "0");
            CHECK.same("the other phrase is unknown", Panyard.NONE, x.part(1, 0));
            CHECK.same("unknown", Panyard.NONE, x.part(1, 1));
            x.tell(1, 7, 1);
            CHECK.same("ready", 7, x.part(1, 0));
            CHECK.same("ready", 7, x.part(1, 1));
        });
        CHECK.test(23, "Throws `IndexOutOfBoundsException` if there is no such BAND or PHRASE", () -> {
            CHECK.refused("nothing at all", Check.INDEX, Panyard::new, y -> y.part(0, 0));
            CHECK.beyond(Check.INDEX, 0, 3, () -> twoTold(), (y, v) -> y.part(v, 0));
            CHECK.beyond(Check.INDEX, 0, 1, () -> twoTold(), (y, v) -> y.part(1, v));
            CHECK.beyond(Check.INDEX, 0, 1, () -> band(fifths(2), SONG), (y, v) -> y.part(1, v));
            CHECK.refused("no phrase is whole", Check.INDEX, () -> band(fifths(2), 0, 1, 2),
                    y -> y.part(1, 0));
        });
    }

    private static void without() {
        CHECK.test(24, "Returns the LEAPS of the best PARTS, if one SEAT played nothing, all others as"
                + " they are.", () -> {
            int[] three = {Panyard.FIFTHS, Panyard.OLD, Panyard.FIFTHS};
            int[] song = {0, 1, 1, 1, 7, 7, 7, 7};
            Panyard x = told(three, song, "0", "01", "01");
            // 4 and 2 by seat 1 alone; 5 and 2 by two seats; 5 and 6 by seat 2 alone
            sameParts("all", x, 6, 1, 1);
            CHECK.same("without 0", 6, x.without(1, 0));
            CHECK.same("without 1", 7, x.without(1, 1));
            CHECK.same("without 2", 6, x.without(1, 2));
            sameParts("all as they are", x, 6, 1, 1);
        });
        CHECK.range(24, "- `band`: 0 to 3", Check.INDEX, 0, 3, () -> {
            Panyard x = Yards.withPlayers(4);
            for (int b = 0; b < 4; b++) {
                x.join(b, b);
            }
            return x;
        }, (y, v) -> y.without(v, 0));
        CHECK.range(24, "- `seat`: a SEAT of it", Check.INDEX, 0, 7,
                () -> told(fifths(8), SONG, "01"), (y, v) -> y.without(1, v));
    }

    private static void withoutOne() {
        CHECK.test(24, "Returns how many; NONE if the BAND would not be READY.", () -> {
            Panyard only = told(fifths(3), SONG, "0", "0", "1");
            CHECK.same("without the only one", Panyard.NONE, only.without(1, 2));
            CHECK.same("another one stands in", only.leaps(1), only.without(1, 0));
            CHECK.isSo("it is ready", only.leaps(1) != Panyard.NONE);
            CHECK.same("without the last one", Panyard.NONE,
                    told(fifths(8), SONG, "", "", "", "", "", "", "", "01").without(1, 7));
            CHECK.same("without one that knows nothing", 6,
                    told(fifths(8), row(0, 6, 6, 6), "0").without(1, 7));
            CHECK.same("not ready at all", Panyard.NONE, band(fifths(3), SONG).without(1, 0));
            CHECK.same("no song", Panyard.NONE, band(fifths(3)).without(1, 0));
            CHECK.same("one alone", Panyard.NONE, told(fifths(1), SONG, "01").without(1, 0));
            CHECK.same("nothing at all is left to leap", 0,
                    told(fifths(2), row(0, 0, 0, 0), "0", "0").without(1, 0));
        });
        CHECK.test(24, "Throws `IndexOutOfBoundsException` if there is no such BAND or SEAT", () -> {
            CHECK.refused("nothing at all", Check.INDEX, Panyard::new, y -> y.without(0, 0));
            CHECK.beyond(Check.INDEX, 0, 3, () -> twoTold(), (y, v) -> y.without(v, 0));
            CHECK.beyond(Check.INDEX, 0, 1, () -> twoTold(), (y, v) -> y.without(1, v));
            CHECK.beyond(Check.INDEX, 0, 1, () -> band(fifths(2)), (y, v) -> y.without(1, v));
            CHECK.refused("no seat", Check.INDEX, () -> band(fifths(0), SONG),
                    y -> y.without(1, 0));
        });
    }
}
