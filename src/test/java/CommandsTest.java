/** Promises 43 to 46: the command text, its parsing and its carrying out. */
public final class CommandsTest {

    private static final Check CHECK = new Check();
    private static final String TWO_SPOONS = "spoon 0 00 14;spoon 1 99 51;start";

    public static void main(String[] args) {
        append();
        runOneByOne();
        runSeveral();
        runAllOrNothing();
        runKeepsTheReason();
        runIsOneChange();
        errorPosition();
        errorPositionBehindAnOlderText();
        errorPositionIsKept();
        failedCommand();
        CHECK.finish();
    }

    private static void append() {
        CHECK.promise(43, "append");
        SpoonNavy navy = new SpoonNavy();
        CHECK.due("first", navy.append(' '), 1);
        CHECK.due("second", navy.append('~'), 2);
        int[] wrongCodes = {0, 31, 127, 233, 65535};
        for (int code : wrongCodes) {
            CHECK.dueThrow("code " + code, Check.ARGUMENT, () -> navy.append((char) code));
        }
        CHECK.due("third", navy.append('a'), 3);
        for (int length = 4; length <= 60; length++) {
            CHECK.due("length", navy.append('x'), length);
        }
        CHECK.dueThrow("the 61st", Check.STATE, () -> navy.append('x'));
        CHECK.dueThrow("the 61st, wrong code", Check.ARGUMENT, () -> navy.append((char) 31));
        CHECK.dueThrow("run", Check.ARGUMENT, () -> navy.run());
        CHECK.due("after run", navy.append('x'), 1);
    }

    private static void runOneByOne() {
        CHECK.promise(44, "run");
        SpoonNavy navy = new SpoonNavy();
        CHECK.due("spoon", Games.run(navy, "spoon 0 12 34"), 1);
        CHECK.due("x", navy.xOf(0), 1);
        CHECK.due("y", navy.yOf(0), 2);
        CHECK.due("bearing", navy.bearingOf(0), 3);
        CHECK.due("cubes", navy.cubesOf(0), 4);
        CHECK.due("spoon of fleet 1", Games.run(navy, "spoon 1 98 49"), 1);
        CHECK.due("fleet", navy.fleetOf(1), 1);
        CHECK.due("start", Games.run(navy, "start"), 1);
        CHECK.due("isStarted", navy.isStarted(), true);
        CHECK.due("turn", Games.run(navy, "turn 0 1"), 1);
        CHECK.due("bearing", navy.bearingOf(0), 1);
        CHECK.due("sail", Games.run(navy, "sail 00 2"), 1);
        CHECK.due("x", navy.xOf(0), 3);
        CHECK.due("y", navy.yOf(0), 4);
        CHECK.due("openly", navy.isHidden(0), false);
        CHECK.due("sneak", Games.run(navy, "sneak 0 1"), 1);
        CHECK.due("secretly", navy.isHidden(0), true);
        CHECK.due("secretCount", navy.secretCount(), 1);
        CHECK.due("end", Games.run(navy, "end"), 1);
        CHECK.due("activeFleet", navy.activeFleet(), 1);
        CHECK.due("fire at nothing", Games.run(navy, "fire 01 97"), 1);
        CHECK.due("shots", navy.shotCount(), 1);
        CHECK.due("load", Games.run(navy, "load 1 1"), 1);
        CHECK.due("cubes", navy.cubesOf(1), 9);
        CHECK.due("the text is empty", navy.append('e'), 1);
    }

    private static void runSeveral() {
        SpoonNavy navy = new SpoonNavy();
        CHECK.due("three", Games.run(navy, TWO_SPOONS), 3);
        CHECK.due("x of the spoon 1", navy.xOf(1), 9);
        CHECK.due("fifteen", Games.run(navy, "end;end;end;end;end;end;end;end;end;end;end;end;end;end;end"), 15);
        CHECK.due("turnCount", navy.turnCount(), 15);
        CHECK.due("activeFleet", navy.activeFleet(), 1);
        SpoonNavy many = new SpoonNavy();
        for (int spoon = 0; spoon < 12; spoon++) {
            many.addSpoon(spoon / 6, spoon % 6, 5 * (spoon / 6), 0, 2);
        }
        CHECK.due("two digits", Games.run(many, "start;end;turn 11 3;load 10 7;sail 9 1"), 5);
        CHECK.due("bearing of 11", many.bearingOf(11), 3);
        CHECK.due("cubes of 10", many.cubesOf(10), 9);
        CHECK.due("y of 9", many.yOf(9), 6);
    }

    private static void runAllOrNothing() {
        SpoonNavy navy = new SpoonNavy();
        Games.run(navy, TWO_SPOONS);
        Games.type(navy, "turn 0 2;sneak 0 3;fire 0 40;end;end;load 0 9");
        CHECK.dueThrow("fails", Check.STATE, () -> navy.run());
        CHECK.due("failed", navy.failedCommand(), 5);
        CHECK.due("bearing", navy.bearingOf(0), 1);
        CHECK.due("x", navy.xOf(0), 0);
        CHECK.due("cubes", navy.cubesOf(0), 4);
        CHECK.due("shots", navy.shotCount(), 0);
        CHECK.due("sailed", navy.cellsSailed(), 0);
        CHECK.due("secret", navy.secretCount(), 0);
        CHECK.due("turns", navy.turnCount(), 0);
        CHECK.due("actions", navy.actionsLeft(), 3);
        CHECK.due("account", navy.fleetCubesByAccount(0), 4);
        CHECK.due("the text is empty", navy.append('e'), 1);
        CHECK.dueThrow("no text", Check.ARGUMENT, () -> navy.run());
        CHECK.due("the text is empty again", navy.append('e'), 1);
        SpoonNavy other = new SpoonNavy();
        Games.type(other, "spoon 0 00 14;spoon 1 99 51;start;start");
        CHECK.dueThrow("second start", Check.STATE, () -> other.run());
        CHECK.due("spoonCount", other.spoonCount(), 0);
        CHECK.due("isStarted", other.isStarted(), false);
        CHECK.dueThrow("no change", Check.STATE, () -> other.undo());
    }

    private static void runKeepsTheReason() {
        SpoonNavy navy = new SpoonNavy();
        Games.run(navy, TWO_SPOONS);
        CHECK.dueThrow("none", Check.NO_ELEMENT, () -> navy.refusalReason());
        Games.type(navy, "turn 1 0");
        CHECK.dueThrow("other fleet", Check.STATE, () -> navy.run());
        CHECK.dueThrow("no refused action", Check.NO_ELEMENT, () -> navy.refusalReason());
        String[] texts = {
            "turn 0 0;turn 0 0;turn 0 0;turn 0 0",
            "sneak 0 1;sneak 0 1;sneak 0 1;end;end;sneak 0 1;sneak 0 1",
            "turn 0 6;sail 0 1",
            "fire 0 55",
            "turn 0 2;fire 0 01",
            "load 0 6",
        };
        for (int reason = 1; reason <= 6; reason++) {
            Games.type(navy, texts[reason - 1]);
            CHECK.dueThrow(texts[reason - 1], Check.STATE, () -> navy.run());
            CHECK.due(texts[reason - 1], navy.refusalReason(), reason);
        }
        CHECK.due("only the reason outlives what is taken back", navy.cubesOf(0), 4);
    }

    private static void runIsOneChange() {
        SpoonNavy navy = new SpoonNavy();
        Games.run(navy, TWO_SPOONS);
        Games.run(navy, "turn 0 2;sail 0 3;load 0 5;end;load 1 5");
        CHECK.due("undo", navy.undo(), 1);
        CHECK.due("spoonCount", navy.spoonCount(), 2);
        CHECK.due("bearing", navy.bearingOf(0), 1);
        CHECK.due("activeFleet", navy.activeFleet(), 0);
        CHECK.due("undo", navy.undo(), 0);
        CHECK.due("spoonCount", navy.spoonCount(), 0);
        CHECK.due("isStarted", navy.isStarted(), false);
    }

    private static void errorPosition() {
        CHECK.promise(45, "errorPosition");
        SpoonNavy fresh = new SpoonNavy();
        CHECK.dueThrow("none", Check.NO_ELEMENT, () -> fresh.errorPosition());
        dueError("", 0);
        dueError(" end", 0);
        dueError("x", 0);
        dueError("END", 0);
        dueError(";end", 0);
        dueError("e", 1);
        dueError("en", 2);
        dueError("ens", 2);
        dueError("endd", 3);
        dueError("end ", 3);
        dueError("end;", 4);
        dueError("end;;", 4);
        dueError("end; end", 4);
        dueError("s", 1);
        dueError("se", 1);
        dueError("stail", 3);
        dueError("sturn", 2);
        dueError("spoom", 4);
        dueError("snail 0 1", 2);
        dueError("sneal 0 1", 4);
        dueError("sall", 2);
        dueError("stars", 4);
        dueError("start 0", 5);
        dueError("spoon", 5);
        dueError("spoon0", 5);
        dueError("spoon x", 6);
        dueError("spoon 00 00 11", 7);
        dueError("spoon 0 0 11", 9);
        dueError("spoon 0 000 11", 10);
        dueError("spoon 0 00 1", 12);
        dueError("spoon 0 00 111", 13);
        dueError("spoon 0 00 11;", 14);
        dueError("turn 1", 6);
        dueError("turn 12", 7);
        dueError("turn 123 4", 7);
        dueError("turn  1 2", 5);
        dueError("turn -1 2", 5);
        dueError("turn 1 22", 8);
        dueError("turn 1  2", 7);
        dueError("turm", 3);
        dueError("sail 1 x", 7);
        dueError("sneak 1 1;sneak", 15);
        dueError("fire 0 1", 8);
        dueError("fire 0 123", 9);
        dueError("fire 0 1 2", 8);
        dueError("fira", 3);
        dueError("load 0 10", 8);
        dueError("lord", 2);
        dueError("start;end;bend", 10);
        dueError("end;end;end;end;end;end;end;end;end;end;end;end;end;end;end;", 60);
        dueError("end;end;end;end;end;end;end;end;end;end;end;end;end;end;spoo", 60);
        dueError("end;end;end;end;end;end;end;end;end;end;end;end;end;end;endx", 59);
    }

    private static void dueError(String text, int position) {
        SpoonNavy navy = new SpoonNavy();
        Games.type(navy, text);
        CHECK.dueThrow("\"" + text + "\"", Check.ARGUMENT, () -> navy.run());
        CHECK.due("\"" + text + "\"", navy.errorPosition(), position);
        CHECK.dueThrow("failedCommand", Check.NO_ELEMENT, () -> navy.failedCommand());
        CHECK.due("the text is empty", navy.append('e'), 1);
        CHECK.dueThrow("no change", Check.STATE, () -> navy.undo());
    }

    private static void errorPositionBehindAnOlderText() {
        SpoonNavy navy = new SpoonNavy();
        Games.run(navy, TWO_SPOONS);
        Games.type(navy, "spoon 0 00 1");
        CHECK.dueThrow("the older text is no part", Check.ARGUMENT, () -> navy.run());
        CHECK.due("the older text is no part", navy.errorPosition(), 12);
        Games.type(navy, "spoon 0 00 14;");
        CHECK.dueThrow("nor its second command", Check.ARGUMENT, () -> navy.run());
        CHECK.due("nor its second command", navy.errorPosition(), 14);
        Games.run(navy, "end");
        Games.type(navy, "en");
        CHECK.dueThrow("nor its last letter", Check.ARGUMENT, () -> navy.run());
        CHECK.due("nor its last letter", navy.errorPosition(), 2);
    }

    private static void errorPositionIsKept() {
        SpoonNavy navy = new SpoonNavy();
        Games.type(navy, "endless");
        CHECK.dueThrow("endless", Check.ARGUMENT, () -> navy.run());
        Games.type(navy, "end");
        CHECK.dueThrow("end", Check.STATE, () -> navy.run());
        CHECK.due("after a command failed", navy.errorPosition(), 3);
        Games.run(navy, TWO_SPOONS);
        CHECK.due("after a success", navy.errorPosition(), 3);
        navy.undo();
        CHECK.due("after undo", navy.errorPosition(), 3);
        navy.save();
        Games.type(navy, "spoon 0 000");
        CHECK.dueThrow("spoon", Check.ARGUMENT, () -> navy.run());
        CHECK.due("set again", navy.errorPosition(), 10);
        navy.restore();
        CHECK.due("after restore", navy.errorPosition(), 10);
    }

    private static void failedCommand() {
        CHECK.promise(46, "failedCommand");
        SpoonNavy navy = new SpoonNavy();
        CHECK.dueThrow("none", Check.NO_ELEMENT, () -> navy.failedCommand());
        Games.run(navy, TWO_SPOONS);
        CHECK.dueThrow("none after a success", Check.NO_ELEMENT, () -> navy.failedCommand());
        dueFailure(navy, "start", 0);
        dueFailure(navy, "end;end;turn 2 0", 2);
        dueFailure(navy, "turn 0 0;turn 0 8", 1);
        dueFailure(navy, "spoon 2 00 11", 0);
        dueFailure(navy, "end;sail 1 4", 1);
        dueFailure(navy, "sail 99 1", 0);
        dueFailure(navy, "turn 0 0;turn 0 0;turn 0 0;turn 0 0", 3);
        dueFailure(navy, "end;load 1 0", 1);
        CHECK.dueThrow("errorPosition is left", Check.NO_ELEMENT, () -> navy.errorPosition());
        Games.type(navy, "x");
        CHECK.dueThrow("no text", Check.ARGUMENT, () -> navy.run());
        CHECK.due("after a wrong text", navy.failedCommand(), 1);
        Games.run(navy, "end");
        CHECK.due("after a success", navy.failedCommand(), 1);
        navy.undo();
        CHECK.due("after undo", navy.failedCommand(), 1);
        navy.save();
        dueFailure(navy, "start", 0);
        navy.restore();
        CHECK.due("after restore", navy.failedCommand(), 0);
        SpoonNavy ended = Games.started(Games.spoon(0, 2, 2, 0, 5), Games.spoon(1, 2, 4, 4, 3));
        dueFailure(ended, "fire 0 24;fire 0 24;end", 2);
        CHECK.due("the game is not finished", ended.isFinished(), false);
    }

    private static void dueFailure(SpoonNavy navy, String text, int index) {
        Games.type(navy, text);
        CHECK.dueThrow(text, Check.STATE, () -> navy.run());
        CHECK.due(text, navy.failedCommand(), index);
    }
}
