import java.util.NoSuchElementException;
import java.util.function.IntConsumer;
import java.util.function.ObjIntConsumer;

/** Counts and prints the answers of a test that are not as due. */
final class Check {

    static final Class<?> INDEX = IndexOutOfBoundsException.class;
    static final Class<?> ARGUMENT = IllegalArgumentException.class;
    static final Class<?> STATE = IllegalStateException.class;
    static final Class<?> UNSUPPORTED = UnsupportedOperationException.class;
    static final Class<?> NO_ELEMENT = NoSuchElementException.class;
    static final Class<?> ARITHMETIC = ArithmeticException.class;

    private int wrong = 0;
    private int checked = 0;
    private String promise = "";

    void promise(int number, String name) {
        promise = "promise " + number + ", " + name;
    }

    /** The sentence of the document by which the next answers are due, in its own words. */
    void sentence(String place, String words) {
        promise = place + ", \"" + words + "\"";
    }

    void due(String what, long got, long want) {
        checked++;
        if (got != want) {
            report(what + " answered " + got + ", due is " + want);
        }
    }

    void due(String what, boolean got, boolean want) {
        due(what, got ? 1 : 0, want ? 1 : 0);
    }

    void dueExactly(String what, double got, double want) {
        checked++;
        if (Double.compare(got, want) != 0) {
            report(what + " answered " + got + ", due is " + want);
        }
    }

    void due(String what, String got, String want) {
        checked++;
        if (!got.equals(want)) {
            report(what + " answered \"" + got + "\", due is \"" + want + "\"");
        }
    }

    /** The very class is asked for: a subclass would be an exception of the Java machine. */
    void dueThrow(String what, Class<?> want, Runnable call) {
        checked++;
        try {
            call.run();
        } catch (RuntimeException thrown) {
            if (thrown.getClass() != want) {
                report(what + " threw " + thrown.getClass().getName() + ", due is " + want.getName());
            }
            return;
        }
        report(what + " threw nothing, due is " + want.getName());
    }

    /** The call takes the numbers from lowest to highest: next to them and far away it throws. */
    void dueThrowOutside(String what, int lowest, int highest, Class<?> want, IntConsumer call) {
        int[] outside = {lowest - 1, highest + 1, Integer.MIN_VALUE, Integer.MAX_VALUE};
        for (int number : outside) {
            dueThrow(what + " " + number, want, () -> call.accept(number));
        }
    }

    /** The call is for spoons that have been added alone, sunk or not, and for none that undo took back. */
    void dueNoSuchSpoon(ObjIntConsumer<SpoonNavy> call) {
        SpoonNavy none = new SpoonNavy();
        dueThrowOutside("no spoons, spoon", 0, -1, INDEX, spoon -> call.accept(none, spoon));
        SpoonNavy three = Games.withSunkSpoon();
        dueThrowOutside("three spoons, spoon", 0, 2, INDEX, spoon -> call.accept(three, spoon));
        SpoonNavy twelve = Games.twelve();
        dueThrowOutside("twelve spoons, spoon", 0, 11, INDEX, spoon -> call.accept(twelve, spoon));
        twelve.undo();
        dueThrowOutside("the twelfth is taken back, spoon", 0, 10, INDEX, spoon -> call.accept(twelve, spoon));
    }

    void dueNoSuchFleet(ObjIntConsumer<SpoonNavy> call) {
        SpoonNavy navy = Games.withSunkSpoon();
        dueThrowOutside("fleet", 0, 1, INDEX, fleet -> call.accept(navy, fleet));
        SpoonNavy none = new SpoonNavy();
        dueThrowOutside("no spoons, fleet", 0, 1, INDEX, fleet -> call.accept(none, fleet));
    }

    /** The call throws and changes nothing of what changes can change. */
    void dueUnchanged(String what, SpoonNavy navy, Class<?> want, Runnable call) {
        String before = Games.stateOf(navy);
        dueThrow(what, want, call);
        due(what + ", state", Games.stateOf(navy), before);
    }

    void dueRefusal(String what, SpoonNavy navy, int reason, Runnable call) {
        dueThrow(what, UNSUPPORTED, call);
        due(what + ", reason", navy.refusalReason(), reason);
    }

    void finish() {
        System.out.println(checked + " answers, " + wrong + " not as due");
        if (wrong != 0) {
            System.exit(1);
        }
    }

    private void report(String text) {
        wrong++;
        System.out.println(promise + ": " + text);
    }
}
