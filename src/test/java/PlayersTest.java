/** Promises 8 to 13. */
public final class PlayersTest {
    private static final Check CHECK = new Check("PlayersTest");
    private static final int[] BAD_BANDS = {-1, 4, Integer.MIN_VALUE, Integer.MAX_VALUE};

    public static void main(String[] args) {
        player();
        join();
        joinRefused();
        seasons();
        leave();
        giveAndTakeBack();
        ofPlayer();
        CHECK.finish();
    }

    private static Panyard withPlayers(int count) {
        Panyard x = new Panyard();
        for (int p = 0; p < count; p++) {
            x.player(p % 2);
        }
        return x;
    }

    private static Panyard withBandOf(int count) {
        Panyard x = withPlayers(Math.max(count, 9));
        for (int p = 0; p < count; p++) {
            x.join(p, 1);
        }
        return x;
    }

    private static void player() {
        Panyard x = new Panyard();
        for (int p = 0; p < 16; p++) {
            CHECK.same("player comes", p, x.player(p % 3 == 0 ? Panyard.OLD : Panyard.FIFTHS));
        }
        for (int p = 0; p < 16; p++) {
            CHECK.same("layout", p % 3 == 0 ? Panyard.OLD : Panyard.FIFTHS, x.ofPlayer(p, 0));
        }
        for (int bad : new int[] {-1, 2, Integer.MIN_VALUE, Integer.MAX_VALUE}) {
            CHECK.refused("layout", Check.ARGUMENT, () -> withPlayers(2), y -> y.player(bad));
            CHECK.refused("layout of a 17th", Check.ARGUMENT, () -> withPlayers(16),
                    y -> y.player(bad));
        }
        CHECK.refused("17th", Check.STATE, () -> withPlayers(16), y -> y.player(0));
    }

    private static void join() {
        Panyard x = withPlayers(16);
        for (int p = 0; p < 8; p++) {
            CHECK.same("joins", p, x.join(7 - p, 3));
            CHECK.same("how many seats", p + 1, x.ofBand(3, 0));
        }
        for (int s = 0; s < 8; s++) {
            CHECK.same("player of a seat", 7 - s, x.seat(3, s));
        }
        CHECK.same("a second band", 0, x.join(4, 0));
        CHECK.same("in two", 2, x.ofPlayer(4, 1));
        CHECK.same("in one", 1, x.ofPlayer(5, 1));
        CHECK.same("no seat elsewhere", 0, x.ofBand(1, 0));
    }

    private static Panyard inTwo() {
        Panyard x = withPlayers(2);
        x.join(0, 0);
        x.join(0, 3);
        return x;
    }

    private static void joinRefused() {
        for (int bad : new int[] {-1, 9, Integer.MIN_VALUE, Integer.MAX_VALUE}) {
            CHECK.refused("join of nobody", Check.INDEX, () -> withBandOf(8), y -> y.join(bad, 1));
            CHECK.refused("leave of nobody", Check.INDEX, () -> withBandOf(8),
                    y -> y.leave(bad, 1));
        }
        for (int bad : BAD_BANDS) {
            CHECK.refused("join of no band", Check.INDEX, () -> inTwo(), y -> y.join(0, bad));
            CHECK.refused("leave of no band", Check.INDEX, () -> inTwo(), y -> y.leave(1, bad));
        }
        CHECK.refused("twice in one", Check.STATE, () -> withBandOf(3), y -> y.join(2, 1));
        CHECK.refused("ninth seat", Check.STATE, () -> withBandOf(8), y -> y.join(8, 1));
        CHECK.refused("third band", Check.STATE, () -> inTwo(), y -> y.join(0, 1));
        CHECK.same("the eighth seat", 7, withBandOf(7).join(8, 1));
    }

    private static Panyard leftOne(int nights) {
        Panyard x = withPlayers(2);
        if (nights > 0) {
            x.pass(nights);
        }
        x.join(0, 1);
        x.leave(0, 1);
        return x;
    }

    private static void seasons() {
        CHECK.refused("another one at once", Check.STATE, () -> leftOne(0), y -> y.join(0, 2));
        CHECK.refused("another one in that season", Check.STATE, () -> {
            Panyard x = leftOne(0);
            x.pass(29);
            return x;
        }, y -> y.join(0, 0));
        CHECK.same("that one again", 0, leftOne(0).join(0, 1));
        CHECK.same("somebody else", 0, leftOne(0).join(1, 2));
        Panyard later = leftOne(29);
        later.pass(1);
        CHECK.same("another one in the next season", 0, later.join(0, 2));
        Panyard within = leftOne(30);
        within.pass(29);
        CHECK.same("the night 59", 59, within.night());
        CHECK.refused("the season goes to 59", Check.STATE, () -> {
            Panyard x = leftOne(30);
            x.pass(29);
            return x;
        }, y -> y.join(0, 3));
        within.pass(1);
        CHECK.same("the night 60 is another one", 0, within.join(0, 3));
        leftAndJoinedAgain();
    }

    private static Panyard joinedAgain() {
        Panyard x = leftOne(0);
        x.join(0, 1);
        return x;
    }

    private static Panyard leftTwo() {
        Panyard x = withPlayers(1);
        x.join(0, 1);
        x.join(0, 2);
        x.leave(0, 1);
        x.leave(0, 2);
        return x;
    }

    private static void leftAndJoinedAgain() {
        CHECK.refused("joined again since", Check.STATE, () -> joinedAgain(), y -> y.join(0, 2));
        CHECK.refused("left earlier than the latest", Check.STATE, () -> leftTwo(),
                y -> y.join(0, 1));
        CHECK.same("left the latest", 0, leftTwo().join(0, 2));
        Panyard x = leftTwo();
        x.pass(30);
        CHECK.same("any one in the next season", 0, x.join(0, 1));
        CHECK.same("and a second one", 0, x.join(0, 0));
    }

    private static void leave() {
        Panyard x = withBandOf(4);
        for (int n = 0; n < 4; n++) {
            x.note(1, n);
        }
        x.tell(1, 2, 0);
        x.tell(1, 1, 0);
        x.change(1, 0, 5);
        x.tell(1, 3, 0);
        CHECK.same("leaves", 3, x.leave(1, 1));
        int[] players = {0, 2, 3};
        int[] known = {Panyard.UNKNOWN, Panyard.WRONG, Panyard.RIGHT};
        for (int s = 0; s < 3; s++) {
            CHECK.same("player one lower", players[s], x.seat(1, s));
            CHECK.same("what it knows comes along", known[s], x.knows(1, s, 0));
        }
        CHECK.same("in how many bands", 0, x.ofPlayer(1, 1));
        CHECK.same("joins behind all", 3, x.join(1, 1));
        CHECK.same("and knows nothing any more", Panyard.UNKNOWN, x.knows(1, 3, 0));
        CHECK.same("the last one leaves", 3, x.leave(1, 1));
        CHECK.same("the first one leaves", 2, x.leave(0, 1));
        CHECK.same("all leave", 1, x.leave(3, 1));
        CHECK.same("all leave", 0, x.leave(2, 1));
        CHECK.refused("in no band", Check.STATE, () -> withBandOf(1), y -> y.leave(1, 1));
        CHECK.refused("in another band", Check.STATE, () -> withBandOf(1), y -> y.leave(0, 2));
        CHECK.refused("left already", Check.STATE, () -> leftOne(0), y -> y.leave(0, 1));
        CHECK.refused("no such seat", Check.INDEX, () -> withBandOf(2), y -> y.seat(1, 2));
    }

    private static Panyard given() {
        Panyard x = withPlayers(3);
        x.pan(0, 0, 0, 0);
        x.pan(1, 1, 1, 1);
        x.give(2, 0);
        return x;
    }

    private static void giveAndTakeBack() {
        Panyard x = given();
        CHECK.same("its pan", 0, x.ofPlayer(2, 2));
        x.give(0, 1);
        CHECK.same("its pan", 1, x.ofPlayer(0, 2));
        CHECK.same("no pan", Panyard.NONE, x.ofPlayer(1, 2));
        CHECK.same("taken back", 0, x.takeBack(2));
        CHECK.same("no pan any more", Panyard.NONE, x.ofPlayer(2, 2));
        CHECK.same("the other one keeps its pan", 1, x.takeBack(0));
        x.give(1, 0);
        CHECK.same("given to another one", 0, x.ofPlayer(1, 2));
        for (int bad : new int[] {-1, 3, Integer.MIN_VALUE, Integer.MAX_VALUE}) {
            CHECK.refused("give to nobody", Check.INDEX, () -> given(), y -> y.give(bad, 0));
            CHECK.refused("take of nobody", Check.INDEX, () -> given(), y -> y.takeBack(bad));
        }
        for (int bad : new int[] {-1, 2, Integer.MIN_VALUE, Integer.MAX_VALUE}) {
            CHECK.refused("give no pan", Check.INDEX, () -> given(), y -> y.give(2, bad));
        }
        CHECK.refused("a second pan", Check.STATE, () -> given(), y -> y.give(2, 1));
        CHECK.refused("the same pan", Check.STATE, () -> given(), y -> y.give(2, 0));
        CHECK.refused("a pan of one", Check.STATE, () -> given(), y -> y.give(1, 0));
        CHECK.refused("none to take", Check.STATE, () -> given(), y -> y.takeBack(1));
    }

    private static void ofPlayer() {
        Panyard x = given();
        x.join(2, 0);
        CHECK.same("layout", Panyard.FIFTHS, x.ofPlayer(2, 0));
        CHECK.same("layout", Panyard.OLD, x.ofPlayer(1, 0));
        CHECK.same("bands", 1, x.ofPlayer(2, 1));
        CHECK.same("bands", 0, x.ofPlayer(1, 1));
        for (int bad : new int[] {-1, 3, Integer.MIN_VALUE, Integer.MAX_VALUE}) {
            CHECK.refused("what", Check.ARGUMENT, () -> given(), y -> y.ofPlayer(0, bad));
            CHECK.refused("nobody", Check.INDEX, () -> given(), y -> y.ofPlayer(bad, 3));
        }
    }
}
