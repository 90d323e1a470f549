/** Promises 22 to 24. */
public final class PartsTest {
    private static final Check CHECK = new Check("PartsTest");
    private static final int[] FIFTHS_SPOTS = {0, 7, 2, 9, 4, 11, 6, 1, 8, 3, 10, 5};
    private static final int[] OLD_SPOTS = {0, 4, 8, 1, 5, 9, 2, 6, 10, 3, 7, 11};
    private static final int[] BAD_BANDS = {-1, 4, Integer.MIN_VALUE, Integer.MAX_VALUE};

    public static void main(String[] args) {
        leapsOnLayouts();
        eachLeapOfAPhrase();
        betweenPhrases();
        longest();
        ties();
        ready();
        without();
        changesCount();
        refused();
        CHECK.finish();
    }

    /** Band 1 with players of such layouts and that song; nobody knows it. */
    private static Panyard band(int[] layouts, int... song) {
        Panyard x = new Panyard();
        for (int p = 0; p < layouts.length; p++) {
            x.player(layouts[p]);
            x.join(p, 1);
        }
        for (int note : song) {
            x.note(1, note);
        }
        return x;
    }

    /** The same with the seats told the phrases: "02" for the phrases 0 and 2. */
    private static Panyard told(int[] layouts, int[] song, String... phrases) {
        Panyard x = band(layouts, song);
        for (int s = 0; s < phrases.length; s++) {
            for (char phrase : phrases[s].toCharArray()) {
                x.tell(1, s, phrase - '0');
            }
        }
        return x;
    }

    private static void sameParts(String what, Panyard x, int leaps, int... seats) {
        CHECK.same(what + " leaps", leaps, x.leaps(1));
        for (int p = 0; p < seats.length; p++) {
            CHECK.same(what + " part of " + p, seats[p], x.part(1, p));
        }
    }

    private static void leapsOnLayouts() {
        for (int from = 0; from < 12; from++) {
            for (int to = 0; to < 12; to++) {
                for (int layout = 0; layout < 2; layout++) {
                    int[] spots = layout == 0 ? FIFTHS_SPOTS : OLD_SPOTS;
                    int up = (spots[to] - spots[from] + 12) % 12;
                    int due = Math.min(up, 12 - up);
                    Panyard x = told(new int[] {layout}, new int[] {from, to, to, to}, "0");
                    sameParts(layout + " from " + from + " to " + to, x, due, 0);
                }
            }
        }
    }

    private static void eachLeapOfAPhrase() {
        int[] one = {Panyard.FIFTHS};
        sameParts("0 7 2 9", told(one, new int[] {0, 7, 2, 9}, "0"), 1 + 1 + 1, 0);
        sameParts("0 6 0 1", told(one, new int[] {0, 6, 0, 1}, "0"), 6 + 6 + 5, 0);
        sameParts("no leap to what is not whole",
                told(one, new int[] {0, 0, 0, 0, 6, 0, 6}, "0"), 0, 0);
        int[] old = {Panyard.OLD};
        sameParts("0 1 2 3 on old", told(old, new int[] {0, 1, 2, 3}, "0"), 4 + 4 + 5, 0);
    }

    private static void betweenPhrases() {
        int[] two = {Panyard.FIFTHS, Panyard.OLD};
        int[] far = {0, 0, 0, 0, 6, 6, 6, 6};
        sameParts("one seat leaps", told(two, far, "01", ""), 6, 0, 0);
        sameParts("one seat leaps on old", told(two, far, "", "01"), 2, 1, 1);
        sameParts("two seats", told(two, far, "0", "1"), 2, 0, 1);
        sameParts("two seats, the higher one first", told(two, far, "1", "0"), 2, 1, 0);
        int[] near = {0, 0, 0, 0, 7, 7, 7, 7};
        sameParts("near on fifths", told(two, near, "01", "1"), 1, 0, 0);
        sameParts("far on old, by the other one", told(two, near, "0", "01"), 2, 0, 1);
        int[] last = {0, 0, 0, 7, 7, 7, 7, 7};
        sameParts("from the last note", told(two, last, "01", ""), 1, 0, 0);
        int[] first = {0, 0, 0, 0, 7, 0, 0, 0};
        sameParts("to the first note", told(two, first, "01", ""), 2, 0, 0);
        int[] three = {Panyard.FIFTHS, Panyard.FIFTHS, Panyard.OLD};
        int[] back = {0, 0, 0, 0, 1, 1, 1, 1, 0, 0, 0, 0};
        sameParts("there and back", told(three, back, "02", "1", ""), 4, 0, 1, 0);
        sameParts("to one and on", told(three, back, "0", "1", "2"), 4, 0, 1, 2);
    }

    /** Six phrases and eight seats, as many as there can be. */
    private static void longest() {
        int[] song = new int[24];
        for (int n = 0; n < 24; n++) {
            song[n] = n / 4 % 2 * 6;
        }
        int[] layouts = {1, 0, 1, 0, 1, 0, 1, 0};
        Panyard fifths = told(layouts, song, "", "012345", "", "012345");
        sameParts("all hand on", fifths, 10, 1, 3, 1, 3, 1, 3);
        CHECK.same("one seat alone", 30, fifths.without(1, 3));
        Panyard all = told(layouts, song, "0", "", "1", "2", "", "3", "4", "5");
        sameParts("one phrase each", all, 10, 0, 2, 3, 5, 6, 7);
        Panyard old = told(layouts, song, "", "", "", "", "", "", "012345", "5");
        sameParts("on old by one", old, 10, 6, 6, 6, 6, 6, 6);
        CHECK.same("heard of that one", 20, old.perform(1, 3));
    }

    private static void ties() {
        int[] three = {Panyard.FIFTHS, Panyard.FIFTHS, Panyard.FIFTHS};
        int[] flat = {3, 3, 3, 3, 3, 3, 3, 3};
        sameParts("all alike", told(three, flat, "01", "01", "01"), 0, 0, 0);
        sameParts("the lower one of two", told(three, flat, "0", "01", "01"), 0, 1, 1);
        int[] two = {0, 0, 0, 0, 2, 2, 2, 2};
        sameParts("stay or hand on", told(three, two, "0", "01", "01"), 2, 0, 1);
        sameParts("the first phrase first", told(three, two, "01", "01", ""), 2, 0, 0);
        sameParts("lower in the second", told(three, two, "1", "0", "01"), 2, 1, 0);
        int[] one = {0, 0, 0, 0, 7, 7, 7, 7};
        sameParts("fewer go ahead of lower", told(three, one, "0", "", "01"), 1, 2, 2);
        int[] long3 = {0, 0, 0, 0, 6, 6, 6, 6, 6, 6, 6, 6};
        sameParts("looks ahead", told(three, long3, "01", "12", "12"), 2, 0, 1, 1);
        sameParts("looks ahead past the lower", told(three, long3, "01", "", "12"), 2, 0, 2, 2);
    }

    private static void ready() {
        int[] two = {Panyard.FIFTHS, Panyard.OLD};
        int[] song = {0, 1, 2, 3, 4, 5, 6, 7};
        CHECK.same("no phrase", Panyard.NONE, band(two, 0, 1, 2).leaps(1));
        CHECK.same("nobody knows", Panyard.NONE, band(two, song).leaps(1));
        CHECK.same("nobody there", Panyard.NONE, band(new int[0], song).leaps(1));
        sameParts("one phrase only", told(two, song, "0", "0"), Panyard.NONE, -1, -1);
        sameParts("the other one only", told(two, song, "1", "1"), Panyard.NONE, -1, -1);
        Panyard x = told(two, song, "0", "1");
        CHECK.isSo("ready", x.leaps(1) != Panyard.NONE);
        x.change(1, 5, 0);
        sameParts("what is wrong counts not", x, Panyard.NONE, Panyard.NONE, Panyard.NONE);
        x.tell(1, 0, 1);
        CHECK.same("but told again", 0, x.part(1, 1));
        x.leave(0, 1);
        sameParts("the one left", x, Panyard.NONE, Panyard.NONE, Panyard.NONE);
    }

    private static void without() {
        int[] three = {Panyard.FIFTHS, Panyard.OLD, Panyard.FIFTHS};
        int[] song = {0, 1, 1, 1, 7, 7, 7, 7};
        Panyard x = told(three, song, "0", "01", "01");
        // 4 and 2 by seat 1 alone; 5 and 2 by two seats; 5 and 6 by seat 2 alone
        sameParts("all", x, 6, 1, 1);
        CHECK.same("without 0", 6, x.without(1, 0));
        CHECK.same("without 1", 7, x.without(1, 1));
        CHECK.same("without 2", 6, x.without(1, 2));
        sameParts("and all as before", x, 6, 1, 1);
        Panyard only = told(three, song, "0", "0", "1");
        CHECK.same("without the only one", Panyard.NONE, only.without(1, 2));
        CHECK.same("without one that another one stands in for", 6, only.without(1, 0));
        CHECK.same("still ready", 6, only.leaps(1));
        CHECK.same("not ready at all", Panyard.NONE, band(three, song).without(1, 0));
        CHECK.same("no song", Panyard.NONE, band(three).without(1, 0));
        CHECK.same("one alone", Panyard.NONE, told(new int[] {0}, song, "01").without(1, 0));
    }

    private static void changesCount() {
        int[] two = {Panyard.FIFTHS, Panyard.OLD};
        Panyard x = told(two, new int[] {0, 1, 2, 3}, "0", "0");
        sameParts("old is nearer", x, 13, 1);
        x.change(1, 1, 7);
        CHECK.same("nobody knows it then", Panyard.NONE, x.leaps(1));
        x.tell(1, 0, 0);
        sameParts("by fifths", x, 1 + 1 + 5, 0);
        for (int n = 0; n < 4; n++) {
            x.note(1, 3);
        }
        CHECK.same("a new phrase nobody knows", Panyard.NONE, x.leaps(1));
    }

    private static void refused() {
        int[] two = {Panyard.FIFTHS, Panyard.OLD};
        int[] song = {0, 1, 2, 3, 4, 5, 6, 7, 8};
        for (int bad : BAD_BANDS) {
            CHECK.refused("leaps", Check.INDEX, () -> told(two, song, "01"), y -> y.leaps(bad));
            CHECK.refused("part", Check.INDEX, () -> told(two, song, "01"), y -> y.part(bad, 0));
            CHECK.refused("without", Check.INDEX, () -> told(two, song, "01"),
                    y -> y.without(bad, 0));
        }
        for (int bad : new int[] {-1, 2, Integer.MIN_VALUE, Integer.MAX_VALUE}) {
            CHECK.refused("part", Check.INDEX, () -> told(two, song, "01"), y -> y.part(1, bad));
            CHECK.refused("part, not ready", Check.INDEX, () -> band(two, song),
                    y -> y.part(1, bad));
            CHECK.refused("without", Check.INDEX, () -> told(two, song, "01"),
                    y -> y.without(1, bad));
        }
        CHECK.refused("no seat", Check.INDEX, () -> band(new int[0], song), y -> y.without(1, 0));
        CHECK.refused("no phrase", Check.INDEX, () -> band(two, 0, 1, 2), y -> y.part(1, 0));
    }
}
