import java.util.function.Consumer;
import java.util.function.Supplier;

/** Counts what a test checks, and tells what was not as due. */
final class Check {
    static final Class<? extends RuntimeException> INDEX = IndexOutOfBoundsException.class;
    static final Class<? extends RuntimeException> ARGUMENT = IllegalArgumentException.class;
    static final Class<? extends RuntimeException> STATE = IllegalStateException.class;
    /** Numbers that are out of every range. */
    static final int[] FAR = {Integer.MIN_VALUE, -1000, 1001, Integer.MAX_VALUE};

    private final String name;
    private int checks;
    private int wrong;

    Check(String name) {
        this.name = name;
    }

    void same(String what, long want, long got) {
        isSo(what + " answered " + got + ", due is " + want, want == got);
    }

    void isSo(String what, boolean so) {
        checks++;
        if (!so) {
            wrong++;
            System.out.println(name + ": " + what);
        }
    }

    /** The call is to throw exactly that, by a throw of Panyard's own, and to change nothing. */
    void refused(String what, Class<? extends RuntimeException> want, Supplier<Panyard> maker,
            Consumer<Panyard> call) {
        Panyard x = maker.get();
        String before = Snapshot.of(x);
        String got = "nothing";
        try {
            call.accept(x);
        } catch (RuntimeException e) {
            got = e.getClass().getName();
            isSo(what + ": the machine threw, not Panyard", isThrownByPanyard(e));
        }
        isSo(what + " threw " + got + ", due is " + want.getName(), got.equals(want.getName()));
        isSo(what + " changed something", before.equals(Snapshot.of(x)));
    }

    static boolean isThrownByPanyard(RuntimeException e) {
        StackTraceElement[] trace = e.getStackTrace();
        return trace.length > 0 && trace[0].getClassName().startsWith("Panyard");
    }

    void finish() {
        System.out.println(name + ": " + checks + " checks, " + wrong + " wrong");
        if (wrong != 0 || checks == 0) {
            System.exit(1);
        }
    }
}
