/** Objects to begin a test with. */
final class Yards {
    private Yards() {
    }

    static Panyard withPan(int first, int second, int third, int fourth) {
        Panyard x = new Panyard();
        x.pan(first, second, third, fourth);
        return x;
    }

    static Panyard withPans(int count) {
        Panyard x = new Panyard();
        for (int p = 0; p < count; p++) {
            x.pan(p, -p, 2 * p, -2 * p);
        }
        return x;
    }

    /** One pan, with so many blows of force 1 on one of its fields. */
    static Panyard beaten(int field, int times, boolean isSink) {
        Panyard x = withPan(0, 0, 0, 0);
        for (int b = 0; b < times; b++) {
            x.blow(0, field, 1, isSink);
        }
        return x;
    }

    /** Players with the layouts by turns. */
    static Panyard withPlayers(int count) {
        Panyard x = new Panyard();
        for (int p = 0; p < count; p++) {
            x.player(p % 2);
        }
        return x;
    }

    /** The players from 0 on sit in that band, whose song has the notes 0 to 11, again and again. */
    static Panyard withBand(int band, int seats, int notes) {
        Panyard x = withPlayers(seats);
        for (int s = 0; s < seats; s++) {
            x.join(s, band);
        }
        for (int n = 0; n < notes; n++) {
            x.note(band, n % 12);
        }
        return x;
    }

    static Panyard atNight(Panyard x, int night) {
        while (x.night() < night) {
            x.pass(Math.min(30, night - x.night()));
        }
        return x;
    }

    /** A band of one new player without a pan, who knows its song of one phrase, of so many leaps. */
    static Panyard readyBand(Panyard x, int band, int leaps) {
        int player = x.player(Panyard.FIFTHS);
        x.join(player, band);
        x.note(band, 0);
        for (int n = 1; n < 4; n++) {
            x.note(band, 7 * leaps % 12);
        }
        x.tell(band, 0, 0);
        return x;
    }

    /** The band 2 has 3 leaps and nothing else; it performed in so many minutes. */
    static Panyard performed(int minutes, int... marks) {
        Panyard x = readyBand(new Panyard(), 2, 3);
        x.perform(2, minutes);
        for (int judge = 0; judge < marks.length; judge++) {
            x.mark(2, judge, marks[judge]);
        }
        return x;
    }
}
