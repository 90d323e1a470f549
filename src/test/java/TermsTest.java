import java.util.function.Consumer;
import java.util.function.Supplier;

/** What the terms say of the whole face: the calls of an object, exceptions and constants. */
public final class TermsTest {
    private static final Check CHECK = new Check("TermsTest");
    private static final String FIRST_NAMED =
            "If several apply, the one that the throws clause names first is thrown.";

    public static void main(String[] args) {
        calls();
        kindsOfThings();
        otherArguments();
        asTheMethodSays();
        severalOfPans();
        severalOfPlayers();
        severalOfSongs();
        severalOfTheNight();
        changesNothing();
        constants();
        CHECK.termsAreHeld("Bands of steel:", "## The public face");
        CHECK.termsAreHeld("## Terms", "### Pans");
        CHECK.termsAreHeld("Ranked are the BANDS", "Ahead of the calls");
        CHECK.finish();
    }

    private static void calls() {
        CHECK.test(0, "An object is used for at most 512 calls after it has been made; what later calls"
                + " answer is free.", () -> {
            Panyard heated = new Panyard();
            for (int call = 1; call < 512; call++) {
                heated.heat(call % 16);
            }
            CHECK.same("the 512th call", 511 % 16, heated.heat(0));
            Panyard passed = Yards.withPan(-60, 60, 12, 1);
            passed.player(Panyard.OLD);
            for (int call = 3; call < 512; call++) {
                CHECK.same("the night", call - 2, passed.pass(1));
            }
            CHECK.same("the 512th call", 1, passed.field(0, 3, 0));
            Panyard left = Yards.withPlayers(2);
            for (int call = 3; call < 512; call += 2) {
                left.join(call / 2 % 2, 3);
                CHECK.same("seats", 0, left.leave(call / 2 % 2, 3));
            }
            Panyard planned = Yards.withPan(40, 0, 0, 0);
            for (int call = 2; call <= 512; call++) {
                CHECK.same("plan", 3, planned.plan(0, 1));
            }
        });
    }

    /** Two pans, a player in band 2, which has one phrase, has performed and has one mark. */
    private static Panyard some() {
        Panyard x = Yards.performed(9, 50);
        x.pan(0, 0, 0, 0);
        x.pan(5, 5, 5, 5);
        return x;
    }

    private static void kindsOfThings() {
        CHECK.test(0, "IndexOutOfBoundsException: there is no such pan, field, player, band, seat,"
                + " PHRASE, place of a song (in change()), rank or judge.", () -> {
            CHECK.beyond(Check.INDEX, 0, 1, () -> some(), (y, v) -> y.isInTune(v));
            CHECK.beyond(Check.INDEX, 0, 3, () -> some(), (y, v) -> y.field(0, v, 0));
            CHECK.beyond(Check.INDEX, 0, 0, () -> some(), (y, v) -> y.ofPlayer(v, 0));
            CHECK.beyond(Check.INDEX, 0, 3, () -> some(), (y, v) -> y.leaps(v));
            CHECK.beyond(Check.INDEX, 0, 0, () -> some(), (y, v) -> y.seat(2, v));
            CHECK.beyond(Check.INDEX, 0, 0, () -> some(), (y, v) -> y.part(2, v));
            CHECK.beyond(Check.INDEX, 0, 3, () -> some(), (y, v) -> y.change(2, v, 0));
            CHECK.beyond(Check.INDEX, 0, 3, () -> some(), (y, v) -> y.rank(v));
            CHECK.beyond(Check.INDEX, 0, 4, () -> some(), (y, v) -> y.mark(2, v, 0));
        });
    }

    private static void otherArguments() {
        CHECK.test(0, "IllegalArgumentException: another argument is out of its range.", () -> {
            CHECK.beyond(Check.ARGUMENT, -60, 60, () -> some(), (y, v) -> y.pan(0, v, 0, 0));
            CHECK.beyond(Check.ARGUMENT, 1, 4, () -> some(), (y, v) -> y.blow(0, 0, v, true));
            CHECK.beyond(Check.ARGUMENT, 0, 15, () -> some(), (y, v) -> y.heat(v));
            CHECK.beyond(Check.ARGUMENT, 0, 4, () -> some(), (y, v) -> y.field(0, 0, v));
            CHECK.beyond(Check.ARGUMENT, 0, 3, () -> some(), (y, v) -> y.plan(0, v));
            CHECK.beyond(Check.ARGUMENT, 0, 1, () -> some(), (y, v) -> y.player(v));
            CHECK.beyond(Check.ARGUMENT, 0, 2, () -> some(), (y, v) -> y.ofPlayer(0, v));
            CHECK.beyond(Check.ARGUMENT, 0, 11, () -> some(), (y, v) -> y.note(2, v));
            CHECK.beyond(Check.ARGUMENT, 0, 11, () -> some(), (y, v) -> y.change(2, 0, v));
            CHECK.beyond(Check.ARGUMENT, 1, 30, () -> some(), (y, v) -> y.pass(v));
            CHECK.beyond(Check.ARGUMENT, 0, 4, () -> some(), (y, v) -> y.ofBand(2, v));
            CHECK.beyond(Check.ARGUMENT, 1, 30, () -> some(), (y, v) -> y.perform(0, v));
            CHECK.beyond(Check.ARGUMENT, 0, 100, () -> some(), (y, v) -> y.mark(2, 1, v));
        });
    }

    private static void asTheMethodSays() {
        CHECK.test(0, "IllegalStateException: as the method says.", () -> {
            Supplier<Panyard> all = () -> grown();
            refusedByState(all, y -> y.pan(0, 0, 0, 0), y -> y.blow(0, 0, 1, true),
                    y -> y.blow(1, 0, 1, false), y -> y.player(0), y -> y.join(0, 1),
                    y -> y.join(8, 0), y -> y.join(10, 2), y -> y.leave(15, 0), y -> y.give(0, 5),
                    y -> y.give(15, 0), y -> y.takeBack(15), y -> y.note(0, 0), y -> y.drill(0, 0),
                    y -> y.drill(3, 0), y -> y.pass(30), y -> y.perform(0, 9), y -> y.perform(2, 9),
                    y -> y.mark(0, 0, 50), y -> y.mark(2, 0, 50), y -> y.score(1));
        });
    }

    @SafeVarargs
    private static void refusedByState(Supplier<Panyard> maker, Consumer<Panyard>... calls) {
        for (int c = 0; c < calls.length; c++) {
            CHECK.refused("call " + c, Check.STATE, maker, calls[c]);
        }
    }

    /**
     * At night 990: six pans, the first cracked, the second sunk, both of players; sixteen players,
     * of which 0 is in two bands and 10 left a band; the band 0 is full, has its drill, has performed
     * and is marked; the band 1 has performed and has one mark; the band 2 is not ready; in the band
     * 3 is nobody.
     */
    private static Panyard grown() {
        Panyard x = Yards.atNight(Yards.withBand(0, 8, 24), 990);
        for (int p = 8; p < 16; p++) {
            x.player(p % 2);
        }
        for (int p = 0; p < 6; p++) {
            x.pan(0, p, -p, 2 * p);
        }
        for (int b = 0; b < 7; b++) {
            x.blow(0, 0, 1, false);
        }
        x.blow(1, 0, 1, true);
        x.give(0, 0);
        x.give(8, 1);
        for (int p = 0; p < 6; p++) {
            x.tell(0, p, p);
        }
        growOthers(x);
        x.drill(0, 0);
        x.heat(7);
        return x;
    }

    private static void growOthers(Panyard x) {
        x.perform(0, 25);
        for (int judge = 0; judge < 5; judge++) {
            x.mark(0, judge, 10 * judge);
        }
        x.join(0, 1);
        x.join(9, 1);
        for (int n = 0; n < 5; n++) {
            x.note(1, n);
            x.note(2, n);
            x.note(3, n);
        }
        x.tell(1, 1, 0);
        x.perform(1, 12);
        x.mark(1, 3, 77);
        x.join(10, 1);
        x.leave(10, 1);
        x.join(11, 2);
    }

    private static void severalOfPans() {
        CHECK.test(2, FIRST_NAMED, () -> CHECK.refused("out of range, and six", Check.ARGUMENT,
                () -> Yards.withPans(6), y -> y.pan(0, 0, 0, 61)));
        CHECK.test(3, FIRST_NAMED, () -> {
            CHECK.refused("no pan, no force", Check.INDEX, () -> some(), y -> y.blow(2, 0, 0, true));
            CHECK.refused("no field, no force", Check.INDEX, () -> some(),
                    y -> y.blow(1, 4, 5, false));
            CHECK.refused("no force, cracked", Check.ARGUMENT, () -> Yards.beaten(1, 7, false),
                    y -> y.blow(0, 1, 5, true));
            CHECK.refused("no force, sunk", Check.ARGUMENT, () -> Yards.beaten(1, 1, true),
                    y -> y.blow(0, 1, 0, false));
        });
        CHECK.test(5, FIRST_NAMED, () -> {
            CHECK.refused("no pan, nothing", Check.INDEX, () -> some(), y -> y.field(2, 0, 5));
            CHECK.refused("no field, nothing", Check.INDEX, () -> some(), y -> y.field(1, 4, -1));
        });
        CHECK.test(7, FIRST_NAMED, () -> CHECK.refused("no pan, no place", Check.INDEX, () -> some(),
                y -> y.plan(2, 4)));
    }

    private static void severalOfPlayers() {
        CHECK.test(8, FIRST_NAMED, () -> CHECK.refused("no layout, and 16", Check.ARGUMENT,
                () -> Yards.withPlayers(16), y -> y.player(2)));
        CHECK.test(9, FIRST_NAMED, () -> {
            CHECK.refused("no band, in two", Check.INDEX, () -> grown(), y -> y.join(0, 4));
            CHECK.refused("no player, a full band", Check.INDEX, () -> grown(), y -> y.join(16, 0));
            CHECK.refused("no band, left one", Check.INDEX, () -> grown(), y -> y.join(10, -1));
        });
        CHECK.test(10, FIRST_NAMED, () -> {
            CHECK.refused("no band, in none", Check.INDEX, () -> grown(), y -> y.leave(15, 4));
            CHECK.refused("no player, nobody there", Check.INDEX, () -> grown(), y -> y.leave(16, 3));
        });
        CHECK.test(11, FIRST_NAMED, () -> {
            CHECK.refused("no pan, has one", Check.INDEX, () -> grown(), y -> y.give(0, 6));
            CHECK.refused("no player, pan of one", Check.INDEX, () -> grown(), y -> y.give(16, 0));
        });
        CHECK.test(13, FIRST_NAMED, () -> CHECK.refused("no player, nothing", Check.INDEX,
                () -> grown(), y -> y.ofPlayer(16, 3)));
    }

    private static void severalOfSongs() {
        CHECK.test(14, FIRST_NAMED, () -> {
            CHECK.refused("no band, no note", Check.INDEX, () -> grown(), y -> y.note(4, 12));
            CHECK.refused("no note, and 24", Check.ARGUMENT, () -> grown(), y -> y.note(0, 12));
        });
        CHECK.test(15, FIRST_NAMED, () -> {
            CHECK.refused("no band, no note", Check.INDEX, () -> grown(), y -> y.change(4, 0, 12));
            CHECK.refused("no place, no note", Check.INDEX, () -> grown(), y -> y.change(0, 24, -1));
        });
        CHECK.test(17, FIRST_NAMED, () -> {
            CHECK.refused("no phrase, no seats", Check.INDEX, () -> grown(), y -> y.drill(3, 1));
            CHECK.refused("no phrase, had a drill", Check.INDEX, () -> grown(), y -> y.drill(0, 6));
            CHECK.refused("neither phrase nor seats", Check.INDEX, Panyard::new, y -> y.drill(0, 0));
        });
        CHECK.test(18, FIRST_NAMED, () -> {
            CHECK.refused("31 nights, above 1000", Check.ARGUMENT, () -> grown(), y -> y.pass(31));
            CHECK.refused("all nights", Check.ARGUMENT, () -> grown(),
                    y -> y.pass(Integer.MAX_VALUE));
        });
        CHECK.test(21, FIRST_NAMED, () -> CHECK.refused("no band, nothing", Check.INDEX,
                () -> grown(), y -> y.ofBand(4, 5)));
    }

    private static void severalOfTheNight() {
        CHECK.test(25, FIRST_NAMED, () -> {
            CHECK.refused("no band, no minutes", Check.INDEX, () -> grown(), y -> y.perform(4, 0));
            CHECK.refused("31 minutes, performed", Check.ARGUMENT, () -> grown(),
                    y -> y.perform(0, 31));
            CHECK.refused("no minutes, not ready", Check.ARGUMENT, () -> grown(),
                    y -> y.perform(2, 0));
        });
        CHECK.test(26, FIRST_NAMED, () -> {
            CHECK.refused("no band, no mark", Check.INDEX, () -> grown(), y -> y.mark(4, 0, 101));
            CHECK.refused("no judge, no mark", Check.INDEX, () -> grown(), y -> y.mark(1, 5, 101));
            CHECK.refused("no judge, not performed", Check.INDEX, () -> grown(),
                    y -> y.mark(2, 5, 1));
            CHECK.refused("no mark, not performed", Check.ARGUMENT, () -> grown(),
                    y -> y.mark(2, 0, 101));
            CHECK.refused("no mark, marked", Check.ARGUMENT, () -> grown(), y -> y.mark(0, 0, -1));
        });
    }

    private static void changesNothing() {
        CHECK.test(0, "A call that throws an exception changes nothing.", () -> {
            for (int bad : new int[] {-101, 101, Integer.MIN_VALUE, Integer.MAX_VALUE}) {
                refusedAll(Check.ARGUMENT, y -> y.pan(bad, 0, 0, 0), y -> y.blow(1, 1, bad, true),
                        y -> y.heat(bad), y -> y.field(1, 1, bad), y -> y.plan(2, bad),
                        y -> y.player(bad), y -> y.ofPlayer(1, bad), y -> y.note(1, bad),
                        y -> y.change(1, 1, bad), y -> y.pass(bad), y -> y.ofBand(1, bad),
                        y -> y.perform(2, bad), y -> y.mark(1, 1, bad));
                refusedAll(Check.INDEX, y -> y.blow(bad, 1, 1, true), y -> y.blow(1, bad, 1, true),
                        y -> y.field(bad, 1, 1), y -> y.field(1, bad, 1), y -> y.isInTune(bad),
                        y -> y.plan(bad, 1), y -> y.join(bad, 1), y -> y.join(15, bad),
                        y -> y.leave(bad, 1), y -> y.leave(0, bad), y -> y.give(bad, 5),
                        y -> y.give(15, bad), y -> y.takeBack(bad), y -> y.ofPlayer(bad, 1));
                refusedAll(Check.INDEX, y -> y.note(bad, 1), y -> y.change(bad, 1, 1),
                        y -> y.change(1, bad, 1), y -> y.tell(bad, 0, 0), y -> y.tell(1, bad, 0),
                        y -> y.tell(1, 0, bad), y -> y.drill(bad, 0), y -> y.drill(1, bad),
                        y -> y.seat(bad, 0), y -> y.seat(1, bad), y -> y.knows(bad, 0, 0),
                        y -> y.knows(1, bad, 0), y -> y.knows(1, 0, bad), y -> y.ofBand(bad, 0));
                refusedAll(Check.INDEX, y -> y.leaps(bad), y -> y.part(bad, 0), y -> y.part(1, bad),
                        y -> y.without(bad, 0), y -> y.without(1, bad), y -> y.perform(bad, 1),
                        y -> y.mark(bad, 1, 1), y -> y.mark(1, bad, 1), y -> y.score(bad),
                        y -> y.rank(bad));
            }
        });
    }

    @SafeVarargs
    private static void refusedAll(Class<? extends RuntimeException> want, Consumer<Panyard>... calls) {
        for (int c = 0; c < calls.length; c++) {
            CHECK.refused("call " + c, want, () -> grown(), calls[c]);
        }
    }

    private static void constants() {
        CHECK.test(0, "The constants: `NONE = -1`: None.", () -> CHECK.same("NONE", -1, Panyard.NONE));
        CHECK.test(0, "`FIFTHS = 0, OLD = 1`: LAYOUTS.", () -> {
            CHECK.same("FIFTHS", 0, Panyard.FIFTHS);
            CHECK.same("OLD", 1, Panyard.OLD);
        });
        CHECK.test(0, "`UNKNOWN = 0, RIGHT = 1, WRONG = 2`: What a SEAT KNOWS of a PHRASE.", () -> {
            CHECK.same("UNKNOWN", 0, Panyard.UNKNOWN);
            CHECK.same("RIGHT", 1, Panyard.RIGHT);
            CHECK.same("WRONG", 2, Panyard.WRONG);
        });
    }
}
