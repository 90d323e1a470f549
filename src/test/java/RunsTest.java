import java.util.ArrayDeque;
import java.util.Deque;
import java.util.TreeMap;
import java.util.function.IntSupplier;

/** Long runs of calls of all kinds, each answer beside that of the Model. */
public final class RunsTest {
    private static final int CALLS = 512;
    private static final int TAIL = 12;
    private static final int RUNS = 600;
    /** Numbers that are out of every range. */
    private static final int[] FAR = {Integer.MIN_VALUE, -1000, 1001, Integer.MAX_VALUE};
    private static final TreeMap<String, Integer> MET = new TreeMap<>();

    private final Check check;
    private final Numbers numbers;
    private final int run;
    private final Deque<String> tail = new ArrayDeque<>();
    private final Panyard x = new Panyard();
    private final Model model = new Model();
    private int calls;
    private boolean isRight = true;

    private RunsTest(Check check, int run) {
        this.check = check;
        this.run = run;
        numbers = new Numbers(run);
    }

    public static void main(String[] args) {
        Check check = new Check("RunsTest");
        for (int run = 0; run < RUNS; run++) {
            new RunsTest(check, run).go();
        }
        met(check, "answer", "pan blow heat field isInTune plan player join leave give takeBack "
                + "ofPlayer note change tell drill pass seat knows ofBand leaps part without "
                + "perform mark score rank night");
        met(check, "IndexOutOfBoundsException", "blow field plan isInTune join leave give takeBack "
                + "ofPlayer note change tell drill seat knows ofBand leaps part without perform "
                + "mark score rank");
        met(check, "IllegalArgumentException", "pan blow heat field plan player ofPlayer note "
                + "change pass ofBand perform mark");
        met(check, "IllegalStateException", "pan blow player join leave give takeBack note drill "
                + "pass perform mark score");
        check.finish();
    }

    private static void met(Check check, String name, String kinds) {
        for (String kind : kinds.split(" ")) {
            int times = MET.getOrDefault(kind + " " + name, 0);
            check.isSo(kind + " gave " + name + " only " + times + " times", times >= 30);
        }
    }

    private void go() {
        if (run % 3 != 0) {
            fillBands();
        }
        if (run % 3 == 2) {
            performAll();
        }
        for (int season = 0; run % 10 == 7 && season < 33; season++) {
            compare("pass", () -> x.pass(30), () -> model.pass(30), 30);
        }
        while (calls < CALLS && isRight) {
            callAny(run % 5);
        }
    }

    private void fillBands() {
        for (int p = 0; p < 8 + run % 9; p++) {
            player(numbers.from(0, 1));
            join(p, p % 4);
            join(p, numbers.from(0, 3));
        }
        for (int b = 0; b < 4; b++) {
            for (int n = numbers.from(0, 24); n > 0; n--) {
                note(b, numbers.from(0, 11));
            }
        }
    }

    /** Marks that are often alike, so that ranks hang on what is heard or on the number too. */
    private void performAll() {
        for (int b = 0; b < 4; b++) {
            for (int told = 0; told < 18; told++) {
                tell(b, numbers.from(0, 3), told % 6);
            }
            perform(b, run % 2 == 0 ? 10 : some(1, 30));
            for (int j = 0; j < 5; j++) {
                mark(b, j, run % 4 == 0 ? 50 : run % 4 == 1 ? some(0, 100) : numbers.from(0, 2));
            }
        }
    }

    /** Mostly from 0 on, as many as there are; at times one of the edges, or far off. */
    private int some(int least, int most) {
        switch (numbers.from(0, 39)) {
            case 0:
                return least - 1;
            case 1:
                return most + 1;
            case 2:
                return FAR[numbers.from(0, FAR.length - 1)];
            default:
                return numbers.from(least, most);
        }
    }

    private void callAny(int profile) {
        switch (profile == 4 ? numbers.from(0, 4) : profile) {
            case 0:
                callOnPans();
                break;
            case 1:
                callOnPlayers();
                break;
            case 2:
                callOnSongs();
                break;
            case 3:
                callOnSongs();
                callOnNight();
                break;
            default:
                callOnPlayers();
                callOnNight();
        }
    }

    private void callOnPans() {
        int pan = some(0, 5);
        int field = some(0, 3);
        switch (numbers.from(0, 9)) {
            case 0:
                int span = numbers.from(1, 60);
                int a = some(-span, span);
                int b = some(-span, span);
                int c = some(-60, 60) * span / 60;
                int d = some(-60, 60);
                compare("pan", () -> x.pan(a, b, c, d), () -> model.pan(a, b, c, d), a, b, c, d);
                break;
            case 1:
                int degrees = some(0, 15);
                compare("heat", () -> x.heat(degrees), () -> model.heat(degrees), degrees);
                break;
            case 2:
            case 3:
            case 4:
                int force = some(1, 4);
                boolean isSink = numbers.from(0, 2) == 0;
                compare("blow", () -> x.blow(pan, field, force, isSink),
                        () -> model.blow(pan, field, force, isSink), pan, field, force,
                        isSink ? 1 : 0);
                break;
            case 5:
                compare("isInTune", () -> x.isInTune(pan) ? 1 : 0, () -> model.isInTune(pan), pan);
                break;
            case 6:
                int place = some(0, 3);
                compare("plan", () -> x.plan(pan, place), () -> model.plan(pan, place), pan,
                        place);
                break;
            default:
                int what = some(0, 4);
                compare("field", () -> x.field(pan, field, what),
                        () -> model.field(pan, field, what), pan, field, what);
        }
    }

    private void player(int layout) {
        compare("player", () -> x.player(layout), () -> model.player(layout), layout);
    }

    private void join(int player, int band) {
        compare("join", () -> x.join(player, band), () -> model.join(player, band), player, band);
    }

    private void note(int band, int note) {
        compare("note", () -> x.note(band, note), () -> model.note(band, note), band, note);
    }

    private void tell(int band, int seat, int phrase) {
        compare("tell", () -> x.tell(band, seat, phrase), () -> model.tell(band, seat, phrase),
                band, seat, phrase);
    }

    private void perform(int band, int minutes) {
        compare("perform", () -> x.perform(band, minutes), () -> model.perform(band, minutes),
                band, minutes);
    }

    private void mark(int band, int judge, int mark) {
        compare("mark", () -> x.mark(band, judge, mark), () -> model.mark(band, judge, mark),
                band, judge, mark);
    }

    private void callOnPlayers() {
        int player = some(0, 15);
        int band = some(0, 3);
        int pan = some(0, 5);
        switch (numbers.from(0, 9)) {
            case 0:
                player(some(0, 1));
                break;
            case 1:
            case 2:
                join(player, band);
                break;
            case 3:
                compare("leave", () -> x.leave(player, band), () -> model.leave(player, band),
                        player, band);
                break;
            case 4:
                compare("give", () -> giveZero(player, pan), () -> model.give(player, pan),
                        player, pan);
                break;
            case 5:
                compare("takeBack", () -> x.takeBack(player), () -> model.takeBack(player),
                        player);
                break;
            case 6:
                int what = some(0, 2);
                compare("ofPlayer", () -> x.ofPlayer(player, what),
                        () -> model.ofPlayer(player, what), player, what);
                break;
            case 7:
                int nights = numbers.from(0, 2) == 0 ? some(1, 30) : 1;
                compare("pass", () -> x.pass(nights), () -> model.pass(nights), nights);
                break;
            default:
                int seat = some(0, 7);
                compare("seat", () -> x.seat(band, seat), () -> model.seat(band, seat), band,
                        seat);
                callOnPans();
        }
    }

    private int giveZero(int player, int pan) {
        x.give(player, pan);
        return 0;
    }

    private void callOnSongs() {
        int band = some(0, 3);
        int seat = some(0, numbers.from(0, 7));
        int phrase = some(0, numbers.from(0, 5));
        int note = some(0, 11);
        switch (numbers.from(0, 11)) {
            case 0:
                note(band, note);
                break;
            case 1:
                int place = some(0, 23);
                compare("change", () -> x.change(band, place, note),
                        () -> model.change(band, place, note), band, place, note);
                break;
            case 2:
            case 3:
            case 4:
                tell(band, seat, phrase);
                break;
            case 5:
            case 6:
                compare("drill", () -> x.drill(band, phrase), () -> model.drill(band, phrase),
                        band, phrase);
                compare("pass", () -> x.pass(1), () -> model.pass(1), 1);
                break;
            case 7:
            case 8:
                compare("knows", () -> x.knows(band, seat, phrase),
                        () -> model.knows(band, seat, phrase), band, seat, phrase);
                break;
            case 9:
                int what = some(0, 4);
                compare("ofBand", () -> x.ofBand(band, what), () -> model.ofBand(band, what),
                        band, what);
                break;
            default:
                callOnParts(band, seat, phrase);
        }
    }

    private void callOnParts(int band, int seat, int phrase) {
        compare("leaps", () -> x.leaps(band), () -> model.leaps(band), band);
        compare("part", () -> x.part(band, phrase), () -> model.part(band, phrase), band, phrase);
        compare("without", () -> x.without(band, seat), () -> model.without(band, seat), band,
                seat);
    }

    private void callOnNight() {
        int band = some(0, 3);
        switch (numbers.from(0, 9)) {
            case 0:
                perform(band, some(1, 30));
                break;
            case 1:
                compare("score", () -> x.score(band), () -> model.score(band), band);
                break;
            case 2:
                int place = some(0, 3);
                compare("rank", () -> x.rank(place), () -> model.rank(place), place);
                break;
            case 3:
                compare("night", x::night, model::night);
                break;
            default:
                mark(band, some(0, 4), some(0, 100));
        }
    }

    private void compare(String kind, IntSupplier got, IntSupplier want, int... arguments) {
        if (calls >= CALLS || !isRight) {
            return;
        }
        calls++;
        String due = answer(want, false);
        String answered = answer(got, true);
        StringBuilder call = new StringBuilder(kind).append('(');
        for (int a = 0; a < arguments.length; a++) {
            call.append(a == 0 ? "" : ", ").append(arguments[a]);
        }
        tail.add(call.append(") -> ").append(answered).toString());
        if (tail.size() > TAIL) {
            tail.remove();
        }
        boolean isThrown = Character.isLetter(due.charAt(0));
        MET.merge(kind + " " + (isThrown ? due : "answer"), 1, Integer::sum);
        isRight = due.equals(answered);
        check.isSo("run " + run + ", call " + calls + ": due is " + due + " at the end of "
                + tail, isRight);
    }

    private static String answer(IntSupplier call, boolean isPanyard) {
        try {
            return "" + call.getAsInt();
        } catch (RuntimeException e) {
            boolean isOwn = !isPanyard || Check.isThrownByPanyard(e);
            return e.getClass().getSimpleName() + (isOwn ? "" : " of the machine");
        }
    }
}
