import java.util.function.Supplier;

/** Promises 25 to 29 and what the terms say of the night of all, sentence by sentence. */
public final class NightTest {
    private static final Check CHECK = new Check("NightTest");

    public static void main(String[] args) {
        perform();
        performRefused();
        heard();
        heardPans();
        heardForGood();
        over();
        mark();
        markRefused();
        judges();
        score();
        scoreRefused();
        middle();
        rank();
        ranked();
        night();
        CHECK.finish(25, 29, "### The night of all", "The constants:");
    }

    private static Panyard ready() {
        return Yards.readyBand(new Panyard(), 2, 3);
    }

    /** Four bands of one player each, all ready, whose leaps are 0 to 3. */
    private static Panyard fourReady() {
        Panyard x = new Panyard();
        for (int b = 0; b < 4; b++) {
            Yards.readyBand(x, b, b);
        }
        return x;
    }

    private static void perform() {
        CHECK.test(25, "A BAND performs.", () -> {
            Panyard x = fourReady();
            x.perform(1, 10);
            int[] due = {Panyard.NONE, 11, Panyard.NONE, Panyard.NONE};
            for (int b = 0; b < 4; b++) {
                CHECK.same("heard of " + b, due[b], x.ofBand(b, 3));
            }
        });
        CHECK.range(25, "- `band`: 0 to 3", Check.INDEX, 0, 3, () -> fourReady(),
                (y, v) -> y.perform(v, 10));
        CHECK.range(25, "- `minutes`: 1 to 30", Check.ARGUMENT, 1, 30, () -> ready(),
                (y, v) -> y.perform(2, v));
        CHECK.test(25, "Returns what is HEARD.", () -> {
            for (int leaps = 0; leaps <= 6; leaps++) {
                Panyard x = Yards.readyBand(new Panyard(), 3, leaps);
                CHECK.same("heard", leaps + 10, x.perform(3, 1 + leaps * 4));
                CHECK.same("and told", leaps + 10, x.ofBand(3, 3));
            }
            CHECK.same("nothing", 0, heardNothing().ofBand(2, 3));
        });
    }

    /** The band 2 has performed, and nothing was heard of it. */
    private static Panyard heardNothing() {
        Panyard x = Yards.readyBand(new Panyard(), 2, 0);
        x.pan(0, 0, 0, 0);
        x.give(0, 0);
        x.perform(2, 10);
        return x;
    }

    private static void performRefused() {
        CHECK.test(25, "Throws `IndexOutOfBoundsException` if there is no such BAND", () -> {
            CHECK.beyond(Check.INDEX, 0, 3, () -> fourReady(), (y, v) -> y.perform(v, 10));
            CHECK.beyond(Check.INDEX, 0, 3, Panyard::new, (y, v) -> y.perform(v, 31));
        });
        CHECK.test(25, "Throws `IllegalArgumentException` if minutes is out of its range", () -> {
            CHECK.beyond(Check.ARGUMENT, 1, 30, () -> ready(), (y, v) -> y.perform(2, v));
            CHECK.beyond(Check.ARGUMENT, 1, 30, () -> ready(), (y, v) -> y.perform(0, v));
        });
        CHECK.test(25, "Throws `IllegalStateException` if it has performed, or is not READY", () -> {
            CHECK.refused("performed", Check.STATE, () -> Yards.performed(9), y -> y.perform(2, 30));
            CHECK.refused("marked", Check.STATE, () -> Yards.performed(9, 1, 2, 3, 4, 5),
                    y -> y.perform(2, 9));
            CHECK.refused("performed, nothing heard", Check.STATE, () -> heardNothing(),
                    y -> y.perform(2, 30));
            CHECK.refused("no song", Check.STATE, () -> ready(), y -> y.perform(1, 9));
            CHECK.refused("known wrong", Check.STATE, () -> {
                Panyard x = ready();
                x.change(2, 0, 5);
                return x;
            }, y -> y.perform(2, 9));
            CHECK.refused("no player any more", Check.STATE, () -> {
                Panyard x = ready();
                x.leave(0, 2);
                return x;
            }, y -> y.perform(2, 9));
        });
        CHECK.test(25, "A BAND performs once, in some minutes.", () -> {
            for (int band = 0; band < 4; band++) {
                int again = band;
                CHECK.refused("nights later", Check.STATE, () -> {
                    Panyard x = fourReady();
                    x.perform(again, 30);
                    x.pass(30);
                    return x;
                }, y -> y.perform(again, 1));
                Panyard others = fourReady();
                others.perform(band, 1);
                CHECK.same("another one", 10 + (band + 1) % 4, others.perform((band + 1) % 4, 30));
            }
        });
    }

    private static void heard() {
        CHECK.test(25, "What is HEARD of it is then, for good, the LEAPS of its best PARTS, and 10 more"
                + " for each SEAT that plays a PHRASE by these", () -> {
            CHECK.same("each seat once", 4 + 20, ofThree().perform(1, 5));
            Panyard idle = ofThree();
            idle.give(2, 0);
            CHECK.same("a pan of who plays nothing", 4 + 20, idle.perform(1, 5));
            Panyard all = Yards.withBand(1, 8, 24);
            for (int p = 0; p < 6; p++) {
                all.tell(1, p + 2, p);
            }
            int leaps = all.leaps(1);
            CHECK.same("six seats", leaps + 60, all.perform(1, 5));
            Panyard one = Yards.withBand(1, 8, 24);
            for (int p = 0; p < 6; p++) {
                one.tell(1, 7, p);
            }
            CHECK.same("one seat of eight", one.leaps(1) + 10, one.perform(1, 5));
        });
    }

    /** Three seats with 4 leaps: 0 plays the phrases 0 and 2, 1 plays 1, and 2 plays nothing. */
    private static Panyard ofThree() {
        Panyard x = new Panyard();
        for (int p = 0; p < 3; p++) {
            x.player(Panyard.FIFTHS);
            x.join(p, 1);
            x.pan(0, 0, 0, 0);
        }
        for (int n = 0; n < 12; n++) {
            x.note(1, 0);
        }
        x.tell(1, 0, 0);
        x.tell(1, 1, 1);
        x.tell(1, 0, 2);
        x.tell(1, 2, 2);
        return x;
    }

    private static Panyard twoGiven() {
        Panyard x = ofThree();
        x.give(0, 0);
        x.give(1, 1);
        return x;
    }

    private static void heardPans() {
        CHECK.test(25, "and whose PLAYER has no PAN, or one that is not IN TUNE, together.", () -> {
            CHECK.same("both in tune", 4, twoGiven().perform(1, 5));
            Panyard one = ofThree();
            one.give(0, 2);
            CHECK.same("one has none", 4 + 10, one.perform(1, 5));
            Panyard beaten = twoGiven();
            beaten.blow(1, 0, 2, false);
            CHECK.same("one is out of tune", 4 + 10, beaten.perform(1, 5));
            Panyard back = twoGiven();
            back.takeBack(1);
            CHECK.same("one is taken back", 4 + 10, back.perform(1, 5));
            Panyard cold = twoGiven();
            cold.heat(5);
            CHECK.same("at the end of the cents", 4, cold.perform(1, 5));
            Panyard hot = twoGiven();
            hot.heat(6);
            CHECK.same("by the heat of now", 4 + 20, hot.perform(1, 5));
            Panyard worn = ready();
            worn.pan(-5, 0, 0, 0);
            worn.give(0, 0);
            worn.drill(2, 0);
            CHECK.same("worn by a drill", 3 + 10, worn.perform(2, 5));
            CHECK.same("cracked", 3 + 10, crackedInTune());
        });
    }

    /** What is heard of band 2, whose only pan has the cents of one in tune, but is cracked. */
    private static int crackedInTune() {
        Panyard x = ready();
        x.pan(-28, 7, 0, 7);
        for (int b = 0; b < 7; b++) {
            x.blow(0, 0, 1, false);
        }
        x.give(0, 0);
        return x.perform(2, 5);
    }

    private static void heardForGood() {
        CHECK.test(25, "is then, for good,", () -> {
            Panyard x = Yards.performed(10);
            x.pan(0, 0, 0, 0);
            x.give(0, 0);
            CHECK.same("a pan was given", 13, x.ofBand(2, 3));
            x.change(2, 1, 6);
            CHECK.same("the song was changed", 13, x.ofBand(2, 3));
            x.leave(0, 2);
            x.pass(30);
            CHECK.same("nobody is there", 13, x.ofBand(2, 3));
            CHECK.same("not ready any more", Panyard.NONE, x.leaps(2));
            CHECK.same("marked all the same", 1, x.mark(2, 0, 5));
            CHECK.same("marked", 13, x.ofBand(2, 3));
        });
    }

    private static void over() {
        CHECK.test(27, "It is OVER by 2 for each minute above 10.", () -> {
            for (int minutes = 1; minutes <= 30; minutes++) {
                int over = minutes <= 10 ? 0 : 2 * (minutes - 10);
                CHECK.same("in " + minutes, 15 - over,
                        Yards.performed(minutes, 9, 5, 1, 6, 4).score(2));
            }
            CHECK.same("10 are free", 0, Yards.performed(10, 0, 0, 0, 0, 0).score(2));
            CHECK.same("11 are not", -2, Yards.performed(11, 0, 0, 0, 0, 0).score(2));
        });
    }

    private static void mark() {
        CHECK.test(26, "A judge marks a BAND.", () -> {
            Panyard x = Yards.performed(10, 10, 20, 30, 40);
            x.mark(2, 4, 50);
            CHECK.same("by all marks", 20 + 30 + 40, x.score(2));
        });
        CHECK.range(26, "- `band`: 0 to 3", Check.INDEX, 0, 3, () -> {
            Panyard x = fourReady();
            for (int b = 0; b < 4; b++) {
                x.perform(b, 10);
            }
            return x;
        }, (y, v) -> y.mark(v, 0, 1));
        CHECK.range(26, "- `judge`: 0 to 4", Check.INDEX, 0, 4, () -> Yards.performed(9),
                (y, v) -> y.mark(2, v, 1));
        CHECK.range(26, "- `mark`: 0 to 100", Check.ARGUMENT, 0, 100, () -> Yards.performed(9),
                (y, v) -> y.mark(2, 0, v));
        CHECK.test(26, "Returns how many marks it has then.", () -> {
            Panyard x = Yards.readyBand(ready(), 0, 1);
            x.perform(2, 10);
            x.perform(0, 10);
            int[] judges = {3, 0, 4, 1, 2};
            for (int j = 0; j < 5; j++) {
                CHECK.same("marks", j + 1, x.mark(2, judges[j], j * 25));
            }
            CHECK.same("of another one", 1, x.mark(0, 3, 0));
            CHECK.same("of another one", 2, x.mark(0, 2, 100));
        });
    }

    private static void markRefused() {
        CHECK.test(26, "Throws `IndexOutOfBoundsException` if there is no such BAND or judge", () -> {
            CHECK.beyond(Check.INDEX, 0, 3, () -> Yards.performed(9), (y, v) -> y.mark(v, 0, 50));
            CHECK.beyond(Check.INDEX, 0, 4, () -> Yards.performed(9), (y, v) -> y.mark(2, v, 50));
            CHECK.beyond(Check.INDEX, 0, 4, () -> ready(), (y, v) -> y.mark(2, v, 101));
        });
        CHECK.test(26, "Throws `IllegalArgumentException` if mark is out of its range", () -> {
            CHECK.beyond(Check.ARGUMENT, 0, 100, () -> Yards.performed(9), (y, v) -> y.mark(2, 4, v));
            CHECK.beyond(Check.ARGUMENT, 0, 100, () -> Yards.performed(9, 1),
                    (y, v) -> y.mark(2, 0, v));
            CHECK.beyond(Check.ARGUMENT, 0, 100, () -> ready(), (y, v) -> y.mark(2, 0, v));
        });
        CHECK.test(26, "Throws `IllegalStateException` if the BAND has not performed, or that judge has"
                + " marked it", () -> {
            for (int judge = 0; judge < 5; judge++) {
                int again = judge;
                CHECK.refused("not performed", Check.STATE, () -> ready(),
                        y -> y.mark(2, again, 50));
                CHECK.refused("marked", Check.STATE, () -> Yards.performed(9, 10, 20, 30, 40, 50),
                        y -> y.mark(2, again, 35));
                CHECK.refused("marked by 0", Check.STATE, () -> Yards.performed(9, 0, 0, 0, 0, 0),
                        y -> y.mark(2, again, 0));
            }
            CHECK.same("nothing was heard of it", 1, heardNothing().mark(2, 0, 0));
        });
    }

    private static void judges() {
        CHECK.test(26, "There are the judges 0 to 4; each marks a BAND that has performed once, 0 to"
                + " 100.", () -> {
            for (int judge = 0; judge < 5; judge++) {
                int only = judge;
                Panyard x = Yards.performed(9);
                CHECK.same("the lowest mark", 1, x.mark(2, judge, 0));
                CHECK.same("the highest mark", 2, x.mark(2, (judge + 1) % 5, 100));
                CHECK.refused("twice", Check.STATE, () -> {
                    Panyard y = Yards.performed(9);
                    y.mark(2, only, 0);
                    return y;
                }, y -> y.mark(2, only, 100));
            }
            CHECK.refused("another band performed", Check.STATE,
                    () -> Yards.readyBand(Yards.performed(9), 3, 0), y -> y.mark(3, 0, 1));
        });
    }

    private static void score() {
        CHECK.test(27, "Returns the score of a BAND.", () -> CHECK.changesNothing("asked",
                () -> Yards.performed(9, 1, 2, 3, 4, 5), y -> y.score(2)));
        CHECK.range(27, "- `band`: 0 to 3", Check.INDEX, 0, 3, () -> rankedBands(new int[4],
                new int[] {9, 9, 9, 9}, new int[4]), (y, v) -> y.score(v));
        CHECK.test(27, "Returns the score, perhaps below 0.", () -> {
            CHECK.same("below 0", -40, Yards.performed(30, 0, 0, 0, 0, 0).score(2));
            CHECK.same("just below 0", -1, Yards.performed(12, 1, 1, 1, 1, 1).score(2));
            CHECK.same("0", 0, Yards.performed(10, 0, 0, 0, 0, 0).score(2));
            CHECK.same("as great as can be", 300, Yards.performed(10, 100, 100, 100, 100, 100).score(2));
        });
    }

    private static void scoreRefused() {
        CHECK.test(27, "Throws `IndexOutOfBoundsException` if there is no such BAND",
                () -> CHECK.beyond(Check.INDEX, 0, 3, () -> Yards.performed(9, 1, 2, 3, 4, 5),
                        (y, v) -> y.score(v)));
        CHECK.test(27, "Throws `IllegalStateException` if it has not all five marks", () -> {
            CHECK.refused("not performed", Check.STATE, () -> ready(), y -> y.score(2));
            CHECK.refused("no marks", Check.STATE, () -> Yards.performed(9), y -> y.score(2));
            for (int judge = 0; judge < 5; judge++) {
                int missing = judge;
                CHECK.refused("without judge " + judge, Check.STATE, () -> {
                    Panyard x = Yards.performed(9);
                    for (int j = 0; j < 5; j++) {
                        if (j != missing) {
                            x.mark(2, j, 0);
                        }
                    }
                    return x;
                }, y -> y.score(2));
            }
            CHECK.refused("another one has", Check.STATE, () -> Yards.performed(9, 1, 1, 1, 1, 1),
                    y -> y.score(1));
        });
    }

    private static void middle() {
        CHECK.test(27, "The score of a BAND that has all five marks is the three in the middle of these,"
                + " by size, together, less what it is OVER by.", () -> {
            CHECK.same("by size", 20 + 30 + 40, Yards.performed(10, 30, 10, 50, 20, 40).score(2));
            CHECK.same("falling", 20 + 30 + 40, Yards.performed(10, 50, 40, 30, 20, 10).score(2));
            CHECK.same("alike ones", 150, Yards.performed(1, 50, 50, 50, 50, 50).score(2));
            CHECK.same("the ends twice", 7 + 8 + 9, Yards.performed(3, 7, 7, 8, 9, 9).score(2));
            CHECK.same("the least four times", 3, Yards.performed(3, 1, 1, 1, 1, 9).score(2));
            CHECK.same("the ends of all marks", 200,
                    Yards.performed(3, 0, 100, 100, 100, 0).score(2));
            CHECK.same("less what is over", 90 - 40,
                    Yards.performed(30, 30, 10, 50, 20, 40).score(2));
        });
    }

    /** All four bands, each with such leaps, minutes and one mark of all judges; below 0 of four. */
    private static Panyard rankedBands(int[] leaps, int[] minutes, int[] marks) {
        Panyard x = new Panyard();
        for (int b = 0; b < 4; b++) {
            Yards.readyBand(x, b, leaps[b]);
            x.perform(b, minutes[b]);
            for (int j = 0; j < 5 && (marks[b] >= 0 || j < 4); j++) {
                x.mark(b, j, Math.abs(marks[b]));
            }
        }
        return x;
    }

    private static int[] four(int first, int second, int third, int fourth) {
        return new int[] {first, second, third, fourth};
    }

    private static void sameRanks(String what, Panyard x, int... due) {
        for (int place = 0; place < 4; place++) {
            CHECK.same(what + ": place " + place, place < due.length ? due[place] : Panyard.NONE,
                    x.rank(place));
        }
    }

    private static void rank() {
        Supplier<Panyard> all = () -> rankedBands(four(1, 1, 1, 1), four(9, 9, 9, 9),
                four(1, 2, 3, 4));
        CHECK.test(28, "Returns a BAND by its rank.",
                () -> CHECK.changesNothing("asked", all, y -> y.rank(1)));
        CHECK.range(28, "- `place`: 0 to 3: 0 for the first one", Check.INDEX, 0, 3, all,
                (y, v) -> y.rank(v));
        CHECK.test(28, "- `place`: 0 to 3: 0 for the first one", () -> {
            CHECK.same("the first one", 3, all.get().rank(0));
            CHECK.same("the last one", 0, all.get().rank(3));
        });
        CHECK.test(28, "Returns the BAND; NONE if not so many are ranked.", () -> {
            sameRanks("none", new Panyard());
            sameRanks("none with all marks", Yards.performed(10, 0, 0, 0, 0));
            sameRanks("one", Yards.performed(10, 0, 0, 0, 0, 0), 2);
            sameRanks("two", rankedBands(four(3, 3, 3, 3), four(9, 9, 9, 9),
                    four(10, -40, 20, -30)), 2, 0);
            sameRanks("three", rankedBands(four(3, 3, 3, 3), four(9, 9, 9, 9),
                    four(10, 40, 20, -30)), 1, 2, 0);
            sameRanks("four", all.get(), 3, 2, 1, 0);
        });
        CHECK.test(28, "Throws `IndexOutOfBoundsException` if place is out of its range", () -> {
            CHECK.beyond(Check.INDEX, 0, 3, all, (y, v) -> y.rank(v));
            CHECK.beyond(Check.INDEX, 0, 3, Panyard::new, (y, v) -> y.rank(v));
        });
    }

    private static void ranked() {
        int[] alike = {3, 3, 3, 3};
        int[] ten = {10, 10, 10, 10};
        CHECK.test(28, "Ranked are the BANDS that have all five marks:", () -> {
            sameRanks("below 0 too", rankedBands(alike, four(30, 10, 29, 10), four(0, -9, 0, -9)),
                    2, 0);
            sameRanks("not those of four", rankedBands(alike, ten, four(-1, -100, -1, -100)));
        });
        CHECK.test(28, "that with the greater score first, of alike ones that of which less is HEARD,"
                + " then the lower one.", () -> {
            sameRanks("by score", rankedBands(alike, ten, four(10, 40, 20, 30)), 1, 3, 2, 0);
            sameRanks("by what is heard", rankedBands(four(4, 1, 6, 2), ten, four(7, 7, 7, 7)),
                    1, 3, 0, 2);
            sameRanks("by number", rankedBands(alike, ten, four(7, 7, 7, 7)), 0, 1, 2, 3);
            sameRanks("the score goes ahead", rankedBands(four(0, 6, 1, 5), ten, four(7, 8, 7, 8)),
                    3, 1, 0, 2);
            sameRanks("what is heard goes ahead", rankedBands(four(2, 2, 1, 1), ten,
                    four(7, 7, 7, 7)), 2, 3, 0, 1);
            sameRanks("what is over counts", rankedBands(alike, four(13, 12, 11, 10),
                    four(2, 2, 2, 2)), 3, 2, 1, 0);
            sameRanks("alike by what is over", rankedBands(alike, four(13, 10, 10, 10),
                    four(4, 2, 2, 2)), 0, 1, 2, 3);
        });
    }

    private static void night() {
        CHECK.test(29, "Returns the night.", () -> {
            Panyard x = new Panyard();
            CHECK.same("the first one", 0, x.night());
            x.pass(1);
            CHECK.same("the second one", 1, x.night());
            x.pass(30);
            CHECK.same("later", 31, x.night());
            CHECK.same("told again", 31, x.night());
            CHECK.same("the last one", 1000, Yards.atNight(x, 1000).night());
        });
    }
}
