import java.util.NoSuchElementException;

/** Counts and prints the answers of a test that are not as due. */
final class Check {

    static final Class<?> INDEX = IndexOutOfBoundsException.class;
    static final Class<?> ARGUMENT = IllegalArgumentException.class;
    static final Class<?> STATE = IllegalStateException.class;
    static final Class<?> UNSUPPORTED = UnsupportedOperationException.class;
    static final Class<?> NO_ELEMENT = NoSuchElementException.class;
    static final Class<?> ARITHMETIC = ArithmeticException.class;

    private int wrong = 0;
    private int checked = 0;
    private String promise = "";

    void promise(int number, String name) {
        promise = "promise " + number + ", " + name;
    }

    void due(String what, long got, long want) {
        checked++;
        if (got != want) {
            report(what + " answered " + got + ", due is " + want);
        }
    }

    void due(String what, boolean got, boolean want) {
        due(what, got ? 1 : 0, want ? 1 : 0);
    }

    void dueExactly(String what, double got, double want) {
        checked++;
        if (Double.compare(got, want) != 0) {
            report(what + " answered " + got + ", due is " + want);
        }
    }

    void due(String what, String got, String want) {
        checked++;
        if (!got.equals(want)) {
            report(what + " answered \"" + got + "\", due is \"" + want + "\"");
        }
    }

    /** The very class is asked for: a subclass would be an exception of the Java machine. */
    void dueThrow(String what, Class<?> want, Runnable call) {
        checked++;
        try {
            call.run();
        } catch (RuntimeException thrown) {
            if (thrown.getClass() != want) {
                report(what + " threw " + thrown.getClass().getName() + ", due is " + want.getName());
            }
            return;
        }
        report(what + " threw nothing, due is " + want.getName());
    }

    void dueRefusal(String what, SpoonNavy navy, int reason, Runnable call) {
        dueThrow(what, UNSUPPORTED, call);
        due(what + ", reason", navy.refusalReason(), reason);
    }

    void finish() {
        System.out.println(checked + " answers, " + wrong + " not as due");
        if (wrong != 0) {
            System.exit(1);
        }
    }

    private void report(String text) {
        wrong++;
        System.out.println(promise + ": " + text);
    }
}
