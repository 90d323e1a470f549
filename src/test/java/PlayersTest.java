import java.util.function.Supplier;

/** Promises 8 to 13 and what the terms say of players and bands, sentence by sentence. */
public final class PlayersTest {
    private static final Check CHECK = new Check("PlayersTest");
    private static final int UNKNOWN = Panyard.UNKNOWN, RIGHT = Panyard.RIGHT, WRONG = Panyard.WRONG;

    public static void main(String[] args) {
        player();
        sixteenPlayers();
        join();
        joinRefused();
        seats();
        twoBands();
        seasons();
        leftTheLatest();
        leave();
        leaveRefused();
        closingUp();
        give();
        giveRefused();
        takeBack();
        onePan();
        ofPlayer();
        CHECK.finish(8, 13, "Players, bands", "### Songs");
    }

    private static void player() {
        CHECK.test(8, "A PLAYER comes.", () -> {
            Panyard x = new Panyard();
            x.player(Panyard.OLD);
            CHECK.same("layout", Panyard.OLD, x.ofPlayer(0, 0));
            CHECK.same("bands", 0, x.ofPlayer(0, 1));
            CHECK.same("pan", Panyard.NONE, x.ofPlayer(0, 2));
        });
        CHECK.range(8, "- `layout`: FIFTHS or OLD", Check.ARGUMENT, 0, 1,
                () -> Yards.withPlayers(2), (y, v) -> y.player(v));
        CHECK.test(8, "Returns the number.", () -> {
            Panyard x = new Panyard();
            for (int p = 0; p < 16; p++) {
                CHECK.same("number", p, x.player(p % 3 == 0 ? Panyard.OLD : Panyard.FIFTHS));
            }
            for (int p = 0; p < 16; p++) {
                CHECK.same("the layout of that number", p % 3 == 0 ? Panyard.OLD : Panyard.FIFTHS,
                        x.ofPlayer(p, 0));
            }
        });
        CHECK.test(8, "Throws `IllegalArgumentException` if layout is out of its range", () -> {
            CHECK.beyond(Check.ARGUMENT, 0, 1, Panyard::new, (y, v) -> y.player(v));
            CHECK.beyond(Check.ARGUMENT, 0, 1, () -> Yards.withPlayers(15), (y, v) -> y.player(v));
        });
    }

    private static void sixteenPlayers() {
        CHECK.test(8, "Throws `IllegalStateException` if there are 16", () -> {
            CHECK.refused("17th", Check.STATE, () -> Yards.withPlayers(16),
                    y -> y.player(Panyard.FIFTHS));
            CHECK.refused("17th", Check.STATE, () -> Yards.withPlayers(16),
                    y -> y.player(Panyard.OLD));
            CHECK.same("16th", 15, Yards.withPlayers(15).player(Panyard.OLD));
        });
        CHECK.test(8, "PLAYERS are numbered from 0, at most 16;", () -> {
            CHECK.same("first", 0, new Panyard().player(Panyard.OLD));
            CHECK.same("last", 15, Yards.withPlayers(15).player(Panyard.OLD));
            CHECK.same("the last one is there", 1, Yards.withPlayers(16).ofPlayer(15, 0));
            CHECK.refused("17th", Check.STATE, () -> Yards.withPlayers(16), y -> y.player(0));
            CHECK.beyond(Check.INDEX, 0, 15, () -> Yards.withPlayers(16),
                    (y, v) -> y.ofPlayer(v, 0));
        });
    }

    /** Eight players in band 1, and some more who are in none. */
    private static Panyard full(int more) {
        Panyard x = Yards.withBand(1, 8, 4);
        for (int p = 0; p < more; p++) {
            x.player(Panyard.FIFTHS);
        }
        return x;
    }

    private static Panyard inTwo() {
        Panyard x = Yards.withPlayers(2);
        x.join(0, 0);
        x.join(0, 3);
        return x;
    }

    private static void join() {
        CHECK.test(9, "A PLAYER joins a BAND.", () -> {
            Panyard x = Yards.withPlayers(3);
            x.join(2, 3);
            CHECK.same("its seat", 2, x.seat(3, 0));
            CHECK.same("its bands", 1, x.ofPlayer(2, 1));
            CHECK.same("seats", 1, x.ofBand(3, 0));
            CHECK.same("seats elsewhere", 0, x.ofBand(0, 0) + x.ofBand(1, 0) + x.ofBand(2, 0));
            CHECK.same("bands of others", 0, x.ofPlayer(0, 1) + x.ofPlayer(1, 1));
        });
        CHECK.range(9, "- `player`: a PLAYER", Check.INDEX, 0, 15, () -> Yards.withPlayers(16),
                (y, v) -> y.join(v, 0));
        CHECK.range(9, "- `band`: 0 to 3", Check.INDEX, 0, 3, () -> Yards.withPlayers(1),
                (y, v) -> y.join(0, v));
        CHECK.test(9, "Returns the SEAT.", () -> {
            Panyard x = full(1);
            CHECK.same("first", 0, x.join(8, 2));
            CHECK.same("second", 1, x.join(3, 2));
            CHECK.same("eighth", 7, eighth(8));
        });
        CHECK.test(9, "Throws `IndexOutOfBoundsException` if there is no such PLAYER or BAND", () -> {
            CHECK.refused("no player at all", Check.INDEX, Panyard::new, y -> y.join(0, 0));
            CHECK.beyond(Check.INDEX, 0, 7, () -> full(0), (y, v) -> y.join(v, 1));
            CHECK.beyond(Check.INDEX, 0, 3, () -> inTwo(), (y, v) -> y.join(0, v));
        });
    }

    /** The seat that a player takes who joins a band of seven. */
    private static int eighth(int player) {
        Panyard x = Yards.withBand(1, 7, 4);
        x.player(0);
        x.player(0);
        return x.join(player, 1);
    }

    private static void joinRefused() {
        CHECK.test(9, "Throws `IllegalStateException` if the PLAYER is in it, or in two, the BAND has"
                + " 8 SEATS, or the PLAYER left another one the latest, in this SEASON", () -> {
            for (int p = 0; p < 3; p++) {
                int player = p;
                CHECK.refused("in it", Check.STATE, () -> Yards.withBand(1, 3, 4),
                        y -> y.join(player, 1));
            }
            CHECK.refused("in two, and in it", Check.STATE, () -> inTwo(), y -> y.join(0, 3));
            CHECK.refused("in two", Check.STATE, () -> inTwo(), y -> y.join(0, 1));
            CHECK.same("in one", 1, joinedAnother());
            CHECK.refused("8 seats", Check.STATE, () -> {
                Panyard x = knowing();
                x.player(Panyard.OLD);
                return x;
            }, y -> y.join(8, 1));
            CHECK.same("7 seats", 7, eighth(7));
            CHECK.refused("left another one", Check.STATE, () -> leftOne(0), y -> y.join(0, 2));
            CHECK.same("left that one", 0, leftOne(0).join(0, 1));
            CHECK.same("in another season", 0, Yards.atNight(leftOne(0), 30).join(0, 2));
        });
    }

    private static int joinedAnother() {
        Panyard x = Yards.withBand(1, 2, 0);
        x.join(1, 0);
        return x.join(0, 0);
    }

    private static void seats() {
        CHECK.test(9, "There are the BANDS 0 to 3, each with SEATS, numbered from 0, at most 8, one"
                + " for each PLAYER in it:", () -> {
            Panyard x = Yards.withPlayers(16);
            for (int i = 0; i < 32; i++) {
                CHECK.same("seat", i % 8, x.join(15 - i % 16, i / 8));
                CHECK.same("seats", i % 8 + 1, x.ofBand(i / 8, 0));
            }
            for (int i = 0; i < 32; i++) {
                CHECK.same("player", 15 - i % 16, x.seat(i / 8, i % 8));
            }
            CHECK.beyond(Check.INDEX, 0, 7, () -> full(0), (y, v) -> y.seat(1, v));
            CHECK.beyond(Check.INDEX, 0, 3, () -> full(0), (y, v) -> y.ofBand(v, 0));
            CHECK.refused("a ninth", Check.STATE, () -> full(1), y -> y.join(8, 1));
            Panyard room = full(1);
            room.leave(3, 1);
            CHECK.same("room again", 7, room.join(8, 1));
        });
        CHECK.test(9, "one who joins has the last SEAT;", () -> {
            Panyard x = Yards.withBand(2, 3, 4);
            x.tell(2, 0, 0);
            x.leave(0, 2);
            CHECK.same("joined again", 2, x.join(0, 2));
            int[] players = {1, 2, 0};
            for (int s = 0; s < 3; s++) {
                CHECK.same("player", players[s], x.seat(2, s));
            }
            CHECK.same("it knows nothing any more", UNKNOWN, x.knows(2, 2, 0));
        });
    }

    private static void twoBands() {
        CHECK.test(9, "A PLAYER is in two BANDS at most, and once in each.", () -> {
            Panyard x = inTwo();
            CHECK.same("in two", 2, x.ofPlayer(0, 1));
            CHECK.refused("a third", Check.STATE, () -> inTwo(), y -> y.join(0, 1));
            CHECK.refused("a third", Check.STATE, () -> inTwo(), y -> y.join(0, 2));
            CHECK.refused("twice in the first", Check.STATE, () -> inTwo(), y -> y.join(0, 0));
            CHECK.refused("twice in the only one", Check.STATE, () -> Yards.withBand(0, 1, 0),
                    y -> y.join(0, 0));
            x.leave(0, 0);
            CHECK.same("in one again", 1, x.ofPlayer(0, 1));
            x.pass(30);
            CHECK.same("and in another one", 0, x.join(0, 1));
            CHECK.same("in two again", 2, x.ofPlayer(0, 1));
        });
    }

    /** Player 0 joins and leaves band 1 on that night; nobody else is in a band. */
    private static Panyard leftOne(int night) {
        Panyard x = Yards.atNight(Yards.withPlayers(2), night);
        x.join(0, 1);
        x.leave(0, 1);
        return x;
    }

    private static void seasons() {
        CHECK.test(9, "Nights are counted from 0; a SEASON has 30 of them, the first one the nights 0"
                + " to 29.", () -> {
            CHECK.same("the first night", 0, new Panyard().night());
            int[][] left = {{0, 29, 30}, {15, 29, 30}, {29, 29, 30}, {30, 59, 60}, {59, 59, 60},
                {60, 89, 90}, {960, 989, 990}, {989, 989, 990}};
            for (int[] nights : left) {
                for (int band = 0; band < 4; band++) {
                    int other = band;
                    if (band != 1) {
                        CHECK.refused("left " + nights[0] + ", the season's last night", Check.STATE,
                                () -> Yards.atNight(leftOne(nights[0]), nights[1]),
                                y -> y.join(0, other));
                    }
                    CHECK.same("left " + nights[0] + ", the next one's first night", 0,
                            Yards.atNight(leftOne(nights[0]), nights[2]).join(0, band));
                }
            }
            CHECK.refused("the last season is not over by 1000", Check.STATE,
                    () -> Yards.atNight(leftOne(990), 1000), y -> y.join(0, 0));
            CHECK.same("thirty nights on, seasons on", 0,
                    Yards.atNight(leftOne(5), 305).join(0, 0));
        });
    }

    private static void leftTheLatest() {
        CHECK.test(9, "One who left a BAND joins no other one than that, which it left the latest, in"
                + " the same SEASON, also if it joined that again since.", () -> {
            CHECK.refused("another one", Check.STATE, () -> leftOne(0), y -> y.join(0, 0));
            CHECK.same("that one", 0, leftOne(0).join(0, 1));
            CHECK.same("another player", 0, leftOne(0).join(1, 0));
            Supplier<Panyard> again = () -> {
                Panyard x = leftOne(3);
                x.join(0, 1);
                return x;
            };
            CHECK.refused("joined that again", Check.STATE, again, y -> y.join(0, 2));
            CHECK.same("and then the next season", 0, Yards.atNight(again.get(), 30).join(0, 2));
            Supplier<Panyard> both = () -> {
                Panyard x = Yards.withPlayers(1);
                x.join(0, 1);
                x.join(0, 2);
                x.leave(0, 1);
                x.leave(0, 2);
                return x;
            };
            CHECK.refused("the one left earlier", Check.STATE, both, y -> y.join(0, 1));
            CHECK.refused("one never left", Check.STATE, both, y -> y.join(0, 3));
            CHECK.same("the one left the latest", 0, both.get().join(0, 2));
            Panyard x = both.get();
            x.pass(30);
            CHECK.same("next season, the earlier one", 0, x.join(0, 1));
            CHECK.same("next season, one never left", 0, x.join(0, 3));
            CHECK.refused("left last season and this one", Check.STATE, () -> {
                Panyard y = Yards.atNight(leftOne(0), 30);
                y.join(0, 0);
                y.leave(0, 0);
                return y;
            }, y -> y.join(0, 1));
            Panyard stays = inTwo();
            stays.leave(0, 3);
            CHECK.same("left and joined again beside another", 0, stays.join(0, 3));
        });
    }

    private static void leave() {
        CHECK.test(10, "A PLAYER leaves a BAND.", () -> {
            Panyard x = inTwo();
            x.leave(0, 0);
            CHECK.same("its bands", 1, x.ofPlayer(0, 1));
            CHECK.same("seats", 0, x.ofBand(0, 0));
            CHECK.same("the other one", 0, x.seat(3, 0));
        });
        CHECK.range(10, "- `player`: a PLAYER", Check.INDEX, 0, 7, () -> full(0),
                (y, v) -> y.leave(v, 1));
        CHECK.range(10, "- `band`: 0 to 3", Check.INDEX, 0, 3, () -> {
            Panyard x = Yards.withBand(0, 1, 0);
            x.join(0, 3);
            return x;
        }, (y, v) -> y.leave(0, v));
        CHECK.test(10, "Returns how many SEATS it has then.", () -> {
            Panyard x = full(0);
            int[] leaving = {7, 0, 3, 4, 1, 6, 2, 5};
            for (int i = 0; i < 8; i++) {
                CHECK.same("seats", 7 - i, x.leave(leaving[i], 1));
            }
            CHECK.same("joins the empty one", 0, x.join(5, 1));
        });
    }

    private static void leaveRefused() {
        CHECK.test(10, "Throws `IndexOutOfBoundsException` if there is no such PLAYER or BAND", () -> {
            CHECK.refused("no player at all", Check.INDEX, Panyard::new, y -> y.leave(0, 0));
            CHECK.beyond(Check.INDEX, 0, 7, () -> full(0), (y, v) -> y.leave(v, 1));
            CHECK.beyond(Check.INDEX, 0, 3, () -> full(0), (y, v) -> y.leave(0, v));
        });
        CHECK.test(10, "Throws `IllegalStateException` if the PLAYER is not in it", () -> {
            CHECK.refused("in none", Check.STATE, () -> full(1), y -> y.leave(8, 1));
            CHECK.refused("in another one", Check.STATE, () -> full(0), y -> y.leave(0, 2));
            CHECK.refused("left already", Check.STATE, () -> leftOne(0), y -> y.leave(0, 1));
            CHECK.refused("in two others", Check.STATE, () -> inTwo(), y -> y.leave(0, 1));
        });
    }

    private static void closingUp() {
        CHECK.test(10, "as one leaves, those behind come one lower, each with what it KNOWS.", () -> {
            for (int leaving = 0; leaving < 8; leaving++) {
                Panyard x = knowing();
                x.leave(leaving, 1);
                for (int s = 0; s < 7; s++) {
                    int player = s < leaving ? s : s + 1;
                    String what = "without " + leaving + " seat " + s;
                    CHECK.same(what, player, x.seat(1, s));
                    CHECK.same(what, player % 3, x.knows(1, s, 0));
                    CHECK.same(what, (player + 1) % 3, x.knows(1, s, 1));
                }
                CHECK.same("joined again", 7, x.join(leaving, 1));
                CHECK.same("it knows nothing", UNKNOWN, x.knows(1, 7, 0) + x.knows(1, 7, 1));
            }
            CHECK.refused("the last seat is gone", Check.INDEX, () -> {
                Panyard x = knowing();
                x.leave(0, 1);
                return x;
            }, y -> y.seat(1, 7));
        });
    }

    /** Of eight, each seat knows the phrase 0 as its number by 3, and phrase 1 as the next one's. */
    private static Panyard knowing() {
        Panyard x = Yards.withBand(1, 8, 8);
        for (int due = WRONG; due >= RIGHT; due--) {
            for (int i = 0; i < 16; i++) {
                if ((i / 2 + i % 2) % 3 == due) {
                    x.tell(1, i / 2, i % 2);
                }
            }
            if (due == WRONG) {
                x.change(1, 0, 11);
                x.change(1, 7, 0);
            }
        }
        return x;
    }

    /** Three players and two pans, the first of which is of the last player. */
    private static Panyard given() {
        Panyard x = Yards.withPlayers(3);
        x.pan(0, 0, 0, 0);
        x.pan(1, 1, 1, 1);
        x.give(2, 0);
        return x;
    }

    private static void give() {
        CHECK.test(11, "Gives a PAN to a PLAYER.", () -> {
            Panyard x = given();
            CHECK.same("its pan", 0, x.ofPlayer(2, 2));
            CHECK.same("another's pan", Panyard.NONE, x.ofPlayer(0, 2));
            x.give(0, 1);
            CHECK.same("its pan", 1, x.ofPlayer(0, 2));
            CHECK.same("as before", 0, x.ofPlayer(2, 2));
        });
        CHECK.range(11, "- `player`: a PLAYER", Check.INDEX, 0, 15, () -> {
            Panyard x = Yards.withPlayers(16);
            x.pan(0, 0, 0, 0);
            return x;
        }, (y, v) -> y.give(v, 0));
        CHECK.range(11, "- `pan`: a PAN", Check.INDEX, 0, 5, () -> {
            Panyard x = Yards.withPans(6);
            x.player(0);
            return x;
        }, (y, v) -> y.give(0, v));
    }

    private static void giveRefused() {
        CHECK.test(11, "Throws `IndexOutOfBoundsException` if there is no such PLAYER or PAN", () -> {
            CHECK.refused("no player at all", Check.INDEX, () -> Yards.withPans(1),
                    y -> y.give(0, 0));
            CHECK.refused("no pan at all", Check.INDEX, () -> Yards.withPlayers(1),
                    y -> y.give(0, 0));
            CHECK.beyond(Check.INDEX, 0, 2, () -> given(), (y, v) -> y.give(v, 1));
            CHECK.beyond(Check.INDEX, 0, 1, () -> given(), (y, v) -> y.give(0, v));
            CHECK.refused("no player, pan of one", Check.INDEX, () -> given(), y -> y.give(3, 0));
            CHECK.refused("no pan, has one", Check.INDEX, () -> given(), y -> y.give(2, 2));
            CHECK.beyond(Check.INDEX, 0, 5, () -> {
                Panyard x = Yards.withPans(6);
                x.player(Panyard.FIFTHS);
                return x;
            }, (y, v) -> y.give(0, v));
        });
        CHECK.test(11, "Throws `IllegalStateException` if the PLAYER has one, or the PAN is of one",
                () -> {
            CHECK.refused("a second pan", Check.STATE, () -> given(), y -> y.give(2, 1));
            CHECK.refused("the same pan", Check.STATE, () -> given(), y -> y.give(2, 0));
            CHECK.refused("the pan of another one", Check.STATE, () -> given(), y -> y.give(1, 0));
            Panyard x = given();
            x.takeBack(2);
            x.give(1, 0);
            x.give(2, 1);
            CHECK.same("taken back and given to another one", 0, x.ofPlayer(1, 2));
            CHECK.same("another one given", 1, x.ofPlayer(2, 2));
        });
    }

    private static void takeBack() {
        CHECK.test(12, "Takes the PAN of a PLAYER back.", () -> {
            Panyard x = given();
            x.give(0, 1);
            x.takeBack(2);
            CHECK.same("no pan any more", Panyard.NONE, x.ofPlayer(2, 2));
            CHECK.same("the other one keeps its pan", 1, x.ofPlayer(0, 2));
        });
        CHECK.range(12, "- `player`: a PLAYER", Check.INDEX, 0, 5, () -> {
            Panyard x = Yards.withPans(6);
            for (int p = 0; p < 6; p++) {
                x.player(0);
                x.give(p, 5 - p);
            }
            return x;
        }, (y, v) -> y.takeBack(v));
        CHECK.test(12, "Returns the PAN.", () -> {
            Panyard x = given();
            x.give(0, 1);
            CHECK.same("first", 0, x.takeBack(2));
            CHECK.same("second", 1, x.takeBack(0));
        });
        CHECK.test(12, "Throws `IndexOutOfBoundsException` if there is no such PLAYER", () -> {
            CHECK.refused("no player at all", Check.INDEX, Panyard::new, y -> y.takeBack(0));
            CHECK.beyond(Check.INDEX, 0, 2, () -> given(), (y, v) -> y.takeBack(v));
        });
        CHECK.test(12, "Throws `IllegalStateException` if the PLAYER has none", () -> {
            CHECK.refused("never had one", Check.STATE, () -> given(), y -> y.takeBack(1));
            CHECK.refused("taken already", Check.STATE, () -> {
                Panyard x = given();
                x.takeBack(2);
                return x;
            }, y -> y.takeBack(2));
        });
    }

    private static void onePan() {
        CHECK.test(11, "each has a LAYOUT, and perhaps one PAN, which is of one PLAYER alone.", () -> {
            Panyard x = given();
            int[] layouts = {Panyard.FIFTHS, Panyard.OLD, Panyard.FIFTHS};
            int[] pans = {Panyard.NONE, Panyard.NONE, 0};
            for (int p = 0; p < 3; p++) {
                CHECK.same("layout", layouts[p], x.ofPlayer(p, 0));
                CHECK.same("pan", pans[p], x.ofPlayer(p, 2));
            }
            CHECK.refused("two pans", Check.STATE, () -> given(), y -> y.give(2, 1));
            CHECK.refused("two players", Check.STATE, () -> given(), y -> y.give(0, 0));
        });
    }

    private static void ofPlayer() {
        CHECK.test(13, "Tells something of a PLAYER.", () -> CHECK.changesNothing("asked",
                () -> given(), y -> y.ofPlayer(2, 2)));
        CHECK.range(13, "- `player`: a PLAYER", Check.INDEX, 0, 15, () -> Yards.withPlayers(16),
                (y, v) -> y.ofPlayer(v, 0));
        CHECK.range(13, "- `what`: 0 the LAYOUT, 1 in how many BANDS, 2 the PAN, or NONE",
                Check.ARGUMENT, 0, 2, () -> given(), (y, v) -> y.ofPlayer(0, v));
        CHECK.test(13, "Returns that.", () -> {
            Panyard x = given();
            x.join(0, 0);
            x.join(0, 3);
            x.join(1, 3);
            int[][] due = {{0, 2, -1}, {1, 1, -1}, {0, 0, 0}};
            for (int i = 0; i < 9; i++) {
                CHECK.same("player " + i / 3 + ", " + i % 3, due[i / 3][i % 3],
                        x.ofPlayer(i / 3, i % 3));
            }
        });
        CHECK.test(13, "Throws `IndexOutOfBoundsException` if there is no such PLAYER", () -> {
            CHECK.refused("no player at all", Check.INDEX, Panyard::new, y -> y.ofPlayer(0, 0));
            CHECK.beyond(Check.INDEX, 0, 2, () -> given(), (y, v) -> y.ofPlayer(v, 3));
        });
        CHECK.test(13, "Throws `IllegalArgumentException` if what is out of its range", () -> {
            for (int p = 0; p < 3; p++) {
                int player = p;
                CHECK.beyond(Check.ARGUMENT, 0, 2, () -> given(), (y, v) -> y.ofPlayer(player, v));
            }
        });
    }
}
