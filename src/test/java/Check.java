import java.util.ArrayList;
import java.util.List;
import java.util.Map;
import java.util.TreeMap;
import java.util.function.Consumer;
import java.util.function.Function;
import java.util.function.Supplier;

/** Runs tests, each against a sentence of the document, and tells what was not as due. */
final class Check {
    static final Class<? extends RuntimeException> INDEX = IndexOutOfBoundsException.class;
    static final Class<? extends RuntimeException> ARGUMENT = IllegalArgumentException.class;
    static final Class<? extends RuntimeException> STATE = IllegalStateException.class;

    /** A call with one argument left open. */
    interface Call {
        void with(Panyard x, int value);
    }

    private final String name;
    private final Map<Integer, List<String>> held = new TreeMap<>();
    private String heading;
    private int checks;
    private int wrong;

    Check(String name) {
        this.name = name;
        heading = name + ": ";
    }

    /** A test that would fail if the sentence, of that promise or of the terms, were broken. */
    void test(int promise, String sentence, Runnable body) {
        heading = name + ", promise " + promise + ", \"" + sentence + "\": ";
        isSo("the document does not say so", Document.says(promise, sentence));
        held.computeIfAbsent(promise, any -> new ArrayList<>()).add(sentence);
        int before = checks;
        try {
            body.run();
        } catch (RuntimeException e) {
            isSo("a call threw " + e + " at " + e.getStackTrace()[0], false);
        }
        isSo("nothing was checked", checks > before);
        heading = name + ": ";
    }

    /** A test of an argument: both ends of its range are taken, what lies beyond is refused. */
    void range(int promise, String sentence, Class<? extends RuntimeException> want, int least,
            int most, Supplier<Panyard> maker, Call call) {
        test(promise, sentence, () -> {
            for (int end : new int[] {least, most}) {
                String got = thrownBy(maker.get(), y -> call.with(y, end));
                isSo("with " + end + " it threw " + got, got.isEmpty());
            }
            beyond(want, least, most, maker, call);
        });
    }

    /** What is beside a range, far off, or would come into it cut to 8 or 16 bits is refused. */
    void beyond(Class<? extends RuntimeException> want, int least, int most,
            Supplier<Panyard> maker, Call call) {
        for (int bad : new int[] {least - 1, most + 1, Integer.MIN_VALUE, Integer.MAX_VALUE,
            least + (1 << 16), most - (1 << 16)}) {
            refused("with " + bad, want, maker, y -> call.with(y, bad));
        }
    }

    void same(String what, long want, long got) {
        isSo(what + " is " + got + ", due is " + want, want == got);
    }

    void isSo(String what, boolean so) {
        checks++;
        if (!so) {
            wrong++;
            System.out.println(heading + what);
        }
    }

    /** The call is to throw exactly that, by a throw of Panyard's own, and to change nothing. */
    void refused(String what, Class<? extends RuntimeException> want, Supplier<Panyard> maker,
            Consumer<Panyard> call) {
        String got = thrownBy(maker.get(), call);
        isSo(what + " it threw " + got + ", due is " + want.getName(), got.equals(want.getName()));
        changesNothing(what, maker, call);
    }

    /** Each probe finds the same in an object that was called so and in its twin that was not. */
    void changesNothing(String what, Supplier<Panyard> maker, Consumer<Panyard> call) {
        for (Function<Panyard, String> probe : Probes.ALL) {
            Panyard called = maker.get();
            thrownBy(called, call);
            isSo(what + " it changed something",
                    probe.apply(called).equals(probe.apply(maker.get())));
        }
    }

    /** The name of the exception, with a sign of it if the machine threw it; empty for none. */
    private static String thrownBy(Panyard x, Consumer<Panyard> call) {
        try {
            call.accept(x);
            return "";
        } catch (RuntimeException e) {
            return e.getClass().getName() + (isThrownByPanyard(e) ? "" : " of the machine");
        }
    }

    static boolean isThrownByPanyard(RuntimeException e) {
        StackTraceElement[] trace = e.getStackTrace();
        return trace.length > 0 && trace[0].getClassName().startsWith("Panyard");
    }

    /** Ends the tests of some promises and of a part of the terms, each sentence of which is due. */
    void finish(int first, int last, String from, String to) {
        for (int promise = first; promise <= last; promise++) {
            for (String line : Document.promise(promise)) {
                lineIsHeld(line, held.getOrDefault(promise, List.of()));
            }
        }
        termsAreHeld(from, to);
        finish();
    }

    /** Each sentence from one line of the terms to another one is to be named by a test. */
    void termsAreHeld(String from, String to) {
        List<String> sentences = new ArrayList<>();
        held.values().forEach(sentences::addAll);
        for (String line : Document.between(from, to)) {
            lineIsHeld(line, sentences);
        }
    }

    private void lineIsHeld(String line, List<String> sentences) {
        String left = Document.unheld(line, sentences);
        isSo("no test names: " + left, left.isEmpty());
    }

    void finish() {
        System.out.println(name + ": " + checks + " checks, " + wrong + " wrong");
        if (wrong != 0 || checks == 0) {
            System.exit(1);
        }
    }
}
