import java.util.function.Supplier;

/** Promises 25 to 29. */
public final class NightTest {
    private static final Check CHECK = new Check("NightTest");
    private static final int[] BAD_BANDS = {-1, 4, Integer.MIN_VALUE, Integer.MAX_VALUE};

    public static void main(String[] args) {
        performHeard();
        performPans();
        performForGood();
        performRefused();
        mark();
        markRefused();
        score();
        scoreRefused();
        rank();
        rankRefused();
        night();
        CHECK.finish();
    }

    /** A band of one with a song of so many leaps, which it knows; its player has no pan. */
    private static void readyBand(Panyard x, int band, int leaps) {
        int player = x.player(Panyard.FIFTHS);
        x.join(player, band);
        x.note(band, 0);
        x.note(band, 7 * leaps % 12);
        x.note(band, 7 * leaps % 12);
        x.note(band, 7 * leaps % 12);
        x.tell(band, 0, 0);
    }

    private static Panyard ready() {
        Panyard x = new Panyard();
        readyBand(x, 2, 3);
        return x;
    }

    private static Panyard performed(int minutes, int... marks) {
        Panyard x = ready();
        x.perform(2, minutes);
        for (int j = 0; j < marks.length; j++) {
            x.mark(2, j, marks[j]);
        }
        return x;
    }

    private static void performHeard() {
        for (int leaps = 0; leaps <= 6; leaps++) {
            Panyard x = new Panyard();
            readyBand(x, 3, leaps);
            CHECK.same("heard, no pan", leaps + 10, x.perform(3, 1 + leaps * 4));
            CHECK.same("heard for good", leaps + 10, x.ofBand(3, 3));
            CHECK.same("not of another one", Panyard.NONE, x.ofBand(2, 3));
        }
        Panyard tuned = ready();
        tuned.pan(5, 5, -5, -5);
        tuned.give(0, 0);
        CHECK.same("heard, with a pan in tune", 3, tuned.perform(2, 30));
        Panyard flat = new Panyard();
        readyBand(flat, 0, 0);
        flat.pan(0, 0, 0, 0);
        flat.give(0, 0);
        CHECK.same("nothing heard", 0, flat.perform(0, 10));
        CHECK.refused("nothing heard, again", Check.STATE, () -> {
            Panyard x = new Panyard();
            readyBand(x, 0, 0);
            x.pan(0, 0, 0, 0);
            x.give(0, 0);
            x.perform(0, 10);
            return x;
        }, y -> y.perform(0, 10));
    }

    /** Three seats: 0 plays the phrases 0 and 2, 1 plays 1, and 2 plays nothing. */
    private static Panyard ofThree() {
        Panyard x = new Panyard();
        for (int p = 0; p < 3; p++) {
            x.player(Panyard.FIFTHS);
            x.join(p, 1);
            x.pan(0, 0, 0, 0);
        }
        for (int n = 0; n < 12; n++) {
            x.note(1, 0);
        }
        x.tell(1, 0, 0);
        x.tell(1, 1, 1);
        x.tell(1, 0, 2);
        x.tell(1, 2, 2);
        return x;
    }

    private static void performPans() {
        CHECK.same("each seat that plays, once", 4 + 20, ofThree().perform(1, 5));
        Panyard one = ofThree();
        one.give(0, 2);
        CHECK.same("one has a pan", 4 + 10, one.perform(1, 5));
        Panyard idle = ofThree();
        idle.give(2, 0);
        CHECK.same("who plays nothing counts not", 4 + 20, idle.perform(1, 5));
        Panyard both = ofThree();
        both.give(0, 0);
        both.give(1, 1);
        both.blow(1, 0, 2, false);
        CHECK.same("one is not in tune", 4 + 10, both.perform(1, 5));
        Panyard two = ofThree();
        readyBand(two, 0, 0);
        two.join(1, 0);
        two.leaps(1);
        CHECK.same("who plays in another band only counts not", 10, two.perform(0, 5));
        Panyard cold = ofThree();
        cold.give(0, 0);
        cold.give(1, 1);
        cold.heat(5);
        CHECK.same("in tune by the heat of now", 4, cold.perform(1, 5));
        Panyard hot = ofThree();
        hot.give(0, 0);
        hot.give(1, 1);
        hot.heat(6);
        CHECK.same("out of tune by the heat of now", 4 + 20, hot.perform(1, 5));
    }

    private static void performForGood() {
        Panyard x = performed(10);
        x.pan(0, 0, 0, 0);
        x.give(0, 0);
        x.change(2, 1, 6);
        x.leave(0, 2);
        x.pass(3);
        CHECK.same("heard for good", 13, x.ofBand(2, 3));
        CHECK.same("though not ready any more", Panyard.NONE, x.leaps(2));
        CHECK.same("and marked", 1, x.mark(2, 0, 5));
    }

    private static void performRefused() {
        for (int bad : new int[] {-1, 0, 31, Integer.MIN_VALUE, Integer.MAX_VALUE}) {
            CHECK.refused("minutes", Check.ARGUMENT, () -> ready(), y -> y.perform(2, bad));
            CHECK.refused("minutes, performed", Check.ARGUMENT, () -> performed(9),
                    y -> y.perform(2, bad));
            CHECK.refused("minutes, not ready", Check.ARGUMENT, () -> ready(),
                    y -> y.perform(1, bad));
        }
        for (int bad : BAD_BANDS) {
            CHECK.refused("band", Check.INDEX, () -> ready(), y -> y.perform(bad, 0));
        }
        CHECK.refused("twice", Check.STATE, () -> performed(9), y -> y.perform(2, 9));
        CHECK.refused("no song", Check.STATE, () -> ready(), y -> y.perform(1, 9));
        CHECK.refused("not ready", Check.STATE, () -> {
            Panyard x = ready();
            x.change(2, 0, 5);
            return x;
        }, y -> y.perform(2, 9));
        CHECK.same("the shortest", 13, ready().perform(2, 1));
        CHECK.same("the longest", 13, ready().perform(2, 30));
    }

    private static void mark() {
        Panyard x = ready();
        readyBand(x, 0, 1);
        x.perform(2, 10);
        x.perform(0, 10);
        int[] judges = {3, 0, 4, 1, 2};
        for (int j = 0; j < 5; j++) {
            CHECK.same("marks", j + 1, x.mark(2, judges[j], j * 25));
        }
        CHECK.same("marks of another one", 1, x.mark(0, 3, 0));
        CHECK.same("marks of another one", 2, x.mark(0, 2, 100));
    }

    private static void markRefused() {
        for (int bad : BAD_BANDS) {
            CHECK.refused("band", Check.INDEX, () -> performed(9), y -> y.mark(bad, 0, 101));
        }
        for (int bad : new int[] {-1, 5, Integer.MIN_VALUE, Integer.MAX_VALUE}) {
            CHECK.refused("judge", Check.INDEX, () -> performed(9), y -> y.mark(2, bad, 101));
            CHECK.refused("judge, no band", Check.INDEX, () -> ready(), y -> y.mark(2, bad, 1));
        }
        for (int bad : new int[] {-1, 101, Integer.MIN_VALUE, Integer.MAX_VALUE}) {
            CHECK.refused("mark", Check.ARGUMENT, () -> performed(9, 1), y -> y.mark(2, 1, bad));
            CHECK.refused("mark again", Check.ARGUMENT, () -> performed(9, 1),
                    y -> y.mark(2, 0, bad));
            CHECK.refused("mark ahead", Check.ARGUMENT, () -> ready(), y -> y.mark(2, 0, bad));
        }
        CHECK.refused("ahead of the night", Check.STATE, () -> ready(), y -> y.mark(2, 0, 50));
        CHECK.refused("again", Check.STATE, () -> performed(9, 50), y -> y.mark(2, 0, 50));
        CHECK.refused("again, after 0", Check.STATE, () -> performed(9, 0),
                y -> y.mark(2, 0, 50));
    }

    private static void score() {
        CHECK.same("the three in the middle", 20 + 30 + 40,
                performed(10, 30, 10, 50, 20, 40).score(2));
        CHECK.same("alike ones", 50 + 50 + 50, performed(1, 50, 50, 50, 50, 50).score(2));
        CHECK.same("the least twice", 7 + 8 + 9, performed(3, 7, 7, 8, 9, 9).score(2));
        CHECK.same("all best", 300, performed(10, 100, 100, 100, 100, 100).score(2));
        CHECK.same("two far off", 160, performed(30, 0, 100, 100, 100, 0).score(2));
        for (int minutes = 1; minutes <= 30; minutes++) {
            int over = minutes <= 10 ? 0 : 2 * (minutes - 10);
            CHECK.same("in " + minutes, 15 - over, performed(minutes, 9, 5, 1, 6, 4).score(2));
        }
        CHECK.same("below 0", -40, performed(30, 0, 0, 0, 0, 0).score(2));
    }

    private static void scoreRefused() {
        for (int bad : BAD_BANDS) {
            CHECK.refused("band", Check.INDEX, () -> performed(9, 1, 2, 3, 4, 5),
                    y -> y.score(bad));
        }
        CHECK.refused("not performed", Check.STATE, () -> ready(), y -> y.score(2));
        CHECK.refused("no marks", Check.STATE, () -> performed(9), y -> y.score(2));
        CHECK.refused("four marks", Check.STATE, () -> performed(9, 1, 2, 3, 4),
                y -> y.score(2));
    }

    /** All four bands, each with such leaps, minutes and one mark of all judges; -1 for four. */
    private static Panyard ranked(int[] leaps, int[] minutes, int[] marks) {
        Panyard x = new Panyard();
        for (int b = 0; b < 4; b++) {
            readyBand(x, b, leaps[b]);
            x.perform(b, minutes[b]);
            for (int j = 0; j < 5 && (marks[b] >= 0 || j < 4); j++) {
                x.mark(b, j, Math.abs(marks[b]));
            }
        }
        return x;
    }

    private static void sameRanks(String what, Panyard x, int... due) {
        for (int place = 0; place < 4; place++) {
            CHECK.same(what + " place " + place, place < due.length ? due[place] : Panyard.NONE,
                    x.rank(place));
        }
    }

    private static void rank() {
        int[] same = {3, 3, 3, 3};
        int[] ten = {10, 10, 10, 10};
        sameRanks("by score", ranked(same, ten, new int[] {10, 40, 20, 30}), 1, 3, 2, 0);
        sameRanks("by number", ranked(same, ten, new int[] {7, 7, 7, 7}), 0, 1, 2, 3);
        sameRanks("by what is heard", ranked(new int[] {4, 1, 6, 2}, ten,
                new int[] {7, 7, 7, 7}), 1, 3, 0, 2);
        sameRanks("the score goes first", ranked(new int[] {0, 6, 1, 5}, ten,
                new int[] {7, 8, 7, 8}), 3, 1, 0, 2);
        sameRanks("what is over counts", ranked(same, new int[] {13, 12, 11, 10},
                new int[] {2, 2, 2, 2}), 3, 2, 1, 0);
        sameRanks("not without all marks", ranked(same, ten, new int[] {10, -40, 20, -30}), 2, 0);
        sameRanks("below 0 is ranked", ranked(same, new int[] {30, 10, 29, 10},
                new int[] {0, -9, 0, -9}), 2, 0);
        sameRanks("none", new Panyard());
        sameRanks("one", performed(10, 0, 0, 0, 0, 0), 2);
    }

    private static void rankRefused() {
        Supplier<Panyard> all = () -> ranked(new int[] {1, 1, 1, 1}, new int[] {9, 9, 9, 9},
                new int[] {1, 2, 3, 4});
        for (int bad : BAD_BANDS) {
            CHECK.refused("rank", Check.INDEX, all, y -> y.rank(bad));
            CHECK.refused("rank of none", Check.INDEX, Panyard::new, y -> y.rank(bad));
        }
    }

    private static void night() {
        Panyard x = new Panyard();
        CHECK.same("first night", 0, x.night());
        x.pass(1);
        CHECK.same("second night", 1, x.night());
        x.pass(30);
        CHECK.same("later", 31, x.night());
        CHECK.same("told twice", 31, x.night());
    }
}
