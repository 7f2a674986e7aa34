import java.util.function.Consumer;

/** "Terms": commands, changes and exceptions; each sentence that names a boundary has a test of its own. */
public final class BoundaryChangesTest {

    private static final Check CHECK = new Check();
    private static final String[] TEXTS = {"spoon 0 12 34", "start", "turn 12 3", "sail 12 3", "sneak 12 3",
        "fire 12 34", "load 12 3", "end"};
    private static final String FULL_TEXT = "spoon 0 00 11;spoon 1 99 11;start;end;end;end;end;fire 00 01";

    public static void main(String[] args) {
        sixtyCharacters();
        repetitions();
        optionalDigits();
        numbersInTheirOrder();
        shotAtNothing();
        firstWrongCharacter();
        textThatBreaksOff();
        keywordsByCharacter();
        eachIsAChange();
        whatIsNoChange();
        nothingDiffers();
        runIsOneChange();
        latestEight();
        neitherUndoneNorSaved();
        everythingElseIsUndone();
        everythingElseIsSaved();
        exceptionsChangeNothing();
        exceptThatAReasonIsKept();
        exceptForRun();
        firstExceptionOfActions();
        firstExceptionOfOthers();
        CHECK.finish();
    }

    // ---- commands

    private static void sixtyCharacters() {
        CHECK.sentence("Terms", "The command text is a buffer of at most 60 characters.");
        SpoonNavy navy = new SpoonNavy();
        for (int i = 0; i < 60; i++) {
            CHECK.due("length", navy.append(FULL_TEXT.charAt(i)), i + 1);
        }
        CHECK.dueThrow("the 61st", Check.STATE, () -> navy.append(';'));
        CHECK.due("all 60 are carried out", navy.run(), 8);
        CHECK.due("turns", navy.turnCount(), 4);
        CHECK.due("the command at the end", navy.shotCount(), 1);
        CHECK.due("the buffer is empty", navy.append('e'), 1);
    }

    private static void repetitions() {
        CHECK.sentence("Terms", "A command text has the following form, where braces mean zero or more repetitions");
        SpoonNavy navy = Games.started(Games.spoon(0, 0, 0, 0, 1), Games.spoon(1, 9, 9, 0, 1));
        CHECK.due("zero", Games.run(navy, "end"), 1);
        CHECK.due("one", Games.run(navy, "end;end"), 2);
        CHECK.due("fourteen", Games.run(navy, "end;".repeat(14) + "end"), 15);
        CHECK.due("turns", navy.turnCount(), 18);
        dueError("", 0);
        dueError(";", 0);
        dueError(";end", 0);
        dueError("end;", 4);
        dueError("end;;end", 4);
        dueError("end end", 3);
        dueError("end,end", 3);
        dueError("end; end", 4);
        dueError("end ;end", 3);
        dueError("end;".repeat(15), 60);
    }

    private static void optionalDigits() {
        CHECK.sentence("Terms", "and brackets an optional part");
        String[] commands = {"turn # 0", "sail # 1", "sneak # 1", "fire # 01", "load # 1"};
        for (String command : commands) {
            SpoonNavy navy = Games.started(Games.spoon(0, 0, 0, 0, 5), Games.spoon(1, 9, 9, 0, 1));
            CHECK.due(command + ", one digit", Games.run(navy, command.replace("#", "0")), 1);
            navy.undo();
            CHECK.due(command + ", two digits", Games.run(navy, command.replace("#", "00")), 1);
            int number = command.indexOf('#');
            dueError(command.replace("#", "000"), number + 2);
            dueError(command.replace("#", ""), number);
            dueError(command.replace("#", "x"), number);
            dueError(command.replace("#", "0x"), number + 1);
            dueError(command.replace("#", "-1"), number);
            Games.type(navy, command.replace("#", "99"));
            CHECK.dueThrow(command + ", no such spoon", Check.STATE, () -> navy.run());
        }
        SpoonNavy all = new SpoonNavy();
        for (int spoon = 0; spoon < 12; spoon++) {
            all.addSpoon(spoon / 6, spoon % 6, 5 * (spoon / 6), 0, 2);
        }
        Games.run(all, "start;turn 05 4;end;turn 11 3;turn 9 5;turn 10 6");
        CHECK.due("bearing of 05", all.bearingOf(5), 4);
        CHECK.due("bearing of 11", all.bearingOf(11), 3);
        CHECK.due("bearing of 10", all.bearingOf(10), 6);
        CHECK.due("bearing of 9", all.bearingOf(9), 5);
    }

    private static void numbersInTheirOrder() {
        CHECK.sentence("Terms", "with the numbers of the command as parameters in their order.");
        SpoonNavy navy = new SpoonNavy();
        Games.run(navy, "spoon 1 23 46;spoon 0 54 79;spoon 0 08 21");
        CHECK.due("fleet", navy.fleetOf(0), 1);
        CHECK.due("x", navy.xOf(0), 2);
        CHECK.due("y", navy.yOf(0), 3);
        CHECK.due("bearing", navy.bearingOf(0), 4);
        CHECK.due("cubes", navy.cubesOf(0), 6);
        Games.run(navy, "start;turn 2 3;load 2 5;sail 2 1");
        CHECK.due("turn, the other one", navy.bearingOf(1), 7);
        CHECK.due("turn", navy.bearingOf(2), 3);
        CHECK.due("load", navy.cubesOf(2), 6);
        CHECK.due("sail, x", navy.xOf(2), 1);
        CHECK.due("sail, openly", navy.isHidden(2), false);
        Games.run(navy, "end;end;sneak 2 2;fire 1 37");
        CHECK.due("sneak, x", navy.xOf(2), 3);
        CHECK.due("fire", navy.cubesOf(1), 8);
        CHECK.due("sneak, secretly", navy.secretCount(), 1);
        Games.type(navy, "fire 1 73");
        CHECK.dueThrow("fire, x and y changed", Check.STATE, () -> navy.run());
    }

    private static void shotAtNothing() {
        CHECK.sentence("Terms", "A shot that hits nothing does not fail.");
        SpoonNavy navy = Games.started(Games.spoon(0, 0, 0, 0, 3), Games.spoon(1, 9, 9, 0, 1));
        CHECK.due("run", Games.run(navy, "fire 0 01;end"), 2);
        CHECK.due("shots", navy.shotCount(), 1);
        CHECK.due("hits", navy.hitCount(), 0);
        CHECK.dueThrow("no failed command", Check.NO_ELEMENT, () -> navy.failedCommand());
    }

    private static void firstWrongCharacter() {
        CHECK.sentence("Terms", "The error position of a text is the index of the first character that cannot continue"
                + " any command text.");
        for (String text : TEXTS) {
            dueError(text + "x", text.length());
            dueError(text + " ", text.length());
            dueError(text + "0", text.length());
            dueError("start;" + text + "x", 6 + text.length());
            for (int i = 0; i < text.length(); i++) {
                dueError(text.substring(0, i) + "~" + text.substring(i), i);
                dueError("end;" + text.substring(0, i) + ";" + text.substring(i), 4 + i);
            }
        }
        dueError("xend", 0);
        dueError("endend", 3);
        dueError("turn 1 8;x;y", 9);
        dueError("end;".repeat(14) + "endx", 59);
    }

    private static void textThatBreaksOff() {
        CHECK.sentence("Terms", "If every character can, the error position is the length of the text.");
        for (String text : TEXTS) {
            for (int length = 0; length < text.length(); length++) {
                dueError(text.substring(0, length), length);
                dueError("end;" + text.substring(0, length), 4 + length);
            }
        }
        dueError("end;".repeat(15), 60);
    }

    private static void keywordsByCharacter() {
        CHECK.sentence("Terms", "Keywords are matched character by character.");
        String[] keywords = {"spoon ", "start", "turn ", "sail ", "sneak ", "fire ", "load ", "end"};
        for (String keyword : keywords) {
            for (int i = 0; i < keyword.length(); i++) {
                String rest = keyword.substring(i + 1);
                dueError(keyword.substring(0, i) + "q" + rest, i);
                dueError(keyword.substring(0, i) + Character.toUpperCase(keyword.charAt(i)) + "Q" + rest,
                        keyword.charAt(i) == ' ' ? i + 1 : i);
            }
        }
        dueError("sturn 0 0", 2);
        dueError("snail 0 0", 2);
        dueError("spail 0 0", 2);
        dueError("stail 0 0", 3);
        dueError("sneal 0 0", 4);
        dueError("saol 0 0", 2);
        dueError("fine 0 00", 2);
        dueError("tund 0 0", 2);
    }

    private static void dueError(String text, int position) {
        SpoonNavy navy = new SpoonNavy();
        Games.type(navy, text);
        CHECK.dueThrow("\"" + text + "\"", Check.ARGUMENT, () -> navy.run());
        CHECK.due("error position of \"" + text + "\"", navy.errorPosition(), position);
    }

    // ---- changes

    private static void eachIsAChange() {
        CHECK.sentence("Terms", "A change is a successful call of addSpoon, start, endTurn, turnTo, sail, fire, load or"
                + " run.");
        dueChange("addSpoon", "spoon 0 55 11", navy -> navy.addSpoon(1, 0, 9, 0, 1));
        dueChange("start", "spoon 0 55 11", navy -> navy.start());
        dueChange("endTurn", "start", navy -> navy.endTurn());
        dueChange("turnTo", "start", navy -> navy.turnTo(0, 1));
        dueChange("sail", "start", navy -> navy.sail(0, 1, false));
        dueChange("sail secretly", "start", navy -> navy.sail(0, 3, true));
        dueChange("fire", "start", navy -> navy.fire(0, 0, 1));
        dueChange("load", "start", navy -> navy.load(0, 1));
        dueChange("run", "start", navy -> Games.run(navy, "end"));
    }

    private static void dueChange(String what, String text, Consumer<SpoonNavy> call) {
        SpoonNavy navy = Games.prepared(Games.spoon(0, 0, 0, 0, 5), Games.spoon(1, 9, 9, 4, 5));
        Games.run(navy, text);
        String before = Games.stateOf(navy);
        call.accept(navy);
        CHECK.due(what + ", changes before it", navy.undo(), 3);
        CHECK.due(what + ", state before it", Games.stateOf(navy), before);
    }

    private static void whatIsNoChange() {
        CHECK.sentence("Terms, unsuccessful calls and other calls", "A change is a successful call of addSpoon, start,"
                + " endTurn, turnTo, sail, fire, load or run.");
        SpoonNavy navy = Games.started(Games.spoon(0, 0, 0, 4, 5), Games.spoon(1, 9, 9, 4, 5));
        CHECK.dueThrow("addSpoon", Check.STATE, () -> navy.addSpoon(0, 5, 5, 0, 1));
        CHECK.dueThrow("start", Check.STATE, () -> navy.start());
        CHECK.dueThrow("turnTo", Check.STATE, () -> navy.turnTo(1, 0));
        CHECK.dueThrow("sail", Check.UNSUPPORTED, () -> navy.sail(0, 1, false));
        CHECK.dueThrow("fire", Check.UNSUPPORTED, () -> navy.fire(0, 0, 0));
        CHECK.dueThrow("load", Check.UNSUPPORTED, () -> navy.load(0, 9));
        Games.type(navy, "end;end;start");
        CHECK.dueThrow("run, a command fails", Check.STATE, () -> navy.run());
        Games.type(navy, "end;end;");
        CHECK.dueThrow("run, no command text", Check.ARGUMENT, () -> navy.run());
        navy.describeRow(0);
        navy.save();
        CHECK.due("undo of the start", navy.undo(), 2);
        CHECK.due("isStarted", navy.isStarted(), false);
        CHECK.due("undo is no change itself", navy.undo(), 1);
        CHECK.due("spoonCount", navy.spoonCount(), 1);
        navy.restore();
        CHECK.dueThrow("restore is no change", Check.STATE, () -> navy.undo());
    }

    private static void nothingDiffers() {
        CHECK.sentence("Terms", "A successful call is a change even if nothing differs afterwards.");
        SpoonNavy navy = Games.started(Games.spoon(0, 0, 0, 4, 5), Games.spoon(1, 9, 9, 4, 5));
        CHECK.due("by no step", navy.turnTo(0, 4), 0);
        CHECK.due("by no step", Games.run(navy, "turn 0 4"), 1);
        CHECK.due("actions", navy.actionsLeft(), 1);
        CHECK.due("undo of the run", navy.undo(), 4);
        CHECK.due("actions", navy.actionsLeft(), 2);
        CHECK.due("undo of turning by no step", navy.undo(), 3);
        CHECK.due("actions", navy.actionsLeft(), 3);
    }

    private static void runIsOneChange() {
        CHECK.sentence("Terms", "A call of run that carries out several commands is one change.");
        SpoonNavy navy = new SpoonNavy();
        Games.run(navy, "spoon 0 00 14;spoon 1 99 51;start");
        String before = Games.stateOf(navy);
        Games.run(navy, "end;".repeat(14) + "end");
        CHECK.due("undo of fifteen", navy.undo(), 1);
        CHECK.due("state", Games.stateOf(navy), before);
        CHECK.due("undo of three", navy.undo(), 0);
        CHECK.due("spoonCount", navy.spoonCount(), 0);
        CHECK.dueThrow("nothing to undo", Check.STATE, () -> navy.undo());
    }

    private static void latestEight() {
        CHECK.sentence("Terms", "The latest 8 changes can be undone, the latest one first.");
        for (int changes = 7; changes <= 18; changes++) {
            SpoonNavy navy = Games.started(Games.spoon(0, 0, 0, 4, 5), Games.spoon(1, 9, 9, 4, 5));
            for (int turn = 3; turn < changes; turn++) {
                navy.endTurn();
            }
            int most = Math.min(changes, 8);
            for (int left = most - 1; left >= 0; left--) {
                CHECK.due("undo", navy.undo(), left);
                int undone = most - left;
                CHECK.due(undone + " of " + changes + " undone", navy.turnCount(), Math.max(0, changes - 3 - undone));
            }
            CHECK.dueThrow("one more of " + changes, Check.STATE, () -> navy.undo());
            CHECK.due("spoonCount", navy.spoonCount(), Math.min(2, changes - most));
        }
    }

    private static void neitherUndoneNorSaved() {
        CHECK.sentence("Terms",
                "The command text, the error position, the failed command, the kept reason, and the line"
                + " are neither undone nor saved.");
        SpoonNavy navy = Games.started(Games.spoon(0, 0, 0, 4, 5), Games.spoon(1, 9, 9, 4, 5));
        dueFailures(navy, "endx", "end;start");
        CHECK.dueRefusal("sail", navy, 3, () -> navy.sail(0, 1, false));
        navy.describeRow(0);
        dueKept(navy, 3, 1, 3, 'a');
        navy.save();
        navy.endTurn();
        dueFailures(navy, "x", "load 1 5");
        navy.describeRow(9);
        Games.type(navy, "en");
        dueKept(navy, 0, 0, 6, '.');
        navy.undo();
        dueKept(navy, 0, 0, 6, '.');
        CHECK.due("undo leaves the text", navy.append('d'), 3);
        navy.restore();
        dueKept(navy, 0, 0, 6, '.');
        CHECK.due("restore leaves the text", navy.append(';'), 4);
        CHECK.due("and what stands in it", Games.run(navy, "end"), 2);
    }

    private static void dueFailures(SpoonNavy navy, String wrong, String failing) {
        Games.type(navy, wrong);
        CHECK.dueThrow(wrong, Check.ARGUMENT, () -> navy.run());
        Games.type(navy, failing);
        CHECK.dueThrow(failing, Check.STATE, () -> navy.run());
    }

    private static void dueKept(SpoonNavy navy, int position, int failed, int reason, char first) {
        CHECK.due("error position", navy.errorPosition(), position);
        CHECK.due("failed command", navy.failedCommand(), failed);
        CHECK.due("reason", navy.refusalReason(), reason);
        CHECK.due("line", navy.lineAt(0), first);
    }

    private static void everythingElseIsUndone() {
        CHECK.sentence("Terms, undone", "Everything else is.");
        SpoonNavy navy = manyThings();
        String before = Games.stateOf(navy);
        manyChanges(navy);
        for (int change = 0; change < 7; change++) {
            navy.undo();
        }
        CHECK.due("state", Games.stateOf(navy), before);
    }

    private static void everythingElseIsSaved() {
        CHECK.sentence("Terms, saved", "Everything else is.");
        SpoonNavy navy = manyThings();
        String before = Games.stateOf(navy);
        navy.save();
        manyChanges(navy);
        navy.restore();
        CHECK.due("state", Games.stateOf(navy), before);
        SpoonNavy prepared = Games.prepared(Games.spoon(0, 1, 2, 3, 4));
        String first = Games.stateOf(prepared);
        prepared.save();
        prepared.undo();
        prepared.addSpoon(1, 5, 6, 7, 8);
        prepared.restore();
        CHECK.due("a spoon of another fleet with the same number", Games.stateOf(prepared), first);
        CHECK.due("no cubes of the other fleet", prepared.fleetCubes(1), 0);
    }

    private static SpoonNavy manyThings() {
        SpoonNavy navy = Games.started(Games.spoon(0, 0, 0, 0, 9), Games.spoon(0, 3, 0, 0, 4),
                Games.spoon(1, 0, 8, 4, 5), Games.spoon(1, 9, 9, 5, 9));
        Games.run(navy, "fire 0 08;sneak 1 2;load 1 2;end;sail 3 1;sneak 3 1");
        return navy;
    }

    /** Seven changes that leave nothing of the state as it was: turns, actions, totals, pots and spoons. */
    private static void manyChanges(SpoonNavy navy) {
        navy.load(2, 4);
        navy.endTurn();
        navy.fire(0, 0, 8);
        navy.sail(1, 3, true);
        navy.turnTo(1, 5);
        navy.endTurn();
        navy.sail(3, 1, false);
    }

    // ---- exceptions

    private static void exceptionsChangeNothing() {
        CHECK.sentence("Terms", "A method that throws an exception changes nothing");
        SpoonNavy fresh = new SpoonNavy();
        CHECK.dueUnchanged("start", fresh, Check.STATE, () -> fresh.start());
        CHECK.dueUnchanged("endTurn", fresh, Check.STATE, () -> fresh.endTurn());
        CHECK.dueUnchanged("undo", fresh, Check.STATE, () -> fresh.undo());
        CHECK.dueUnchanged("restore", fresh, Check.STATE, () -> fresh.restore());
        CHECK.dueUnchanged("fleet", fresh, Check.INDEX, () -> fresh.addSpoon(2, 0, 0, 0, 1));
        CHECK.dueUnchanged("cubes", fresh, Check.ARGUMENT, () -> fresh.addSpoon(0, 0, 0, 0, 0));
        fresh.addSpoon(0, 0, 0, 0, 1);
        CHECK.dueUnchanged("taken cell", fresh, Check.UNSUPPORTED, () -> fresh.addSpoon(1, 0, 0, 0, 1));
        CHECK.due("changes", fresh.undo(), 0);
        actionsChangeNothing();
        CHECK.sentence("Terms, text and line", "A method that throws an exception changes nothing");
        SpoonNavy navy = Games.prepared(Games.spoon(0, 0, 0, 0, 5));
        navy.describeRow(0);
        CHECK.dueThrow("row 10", Check.ARGUMENT, () -> navy.describeRow(10));
        CHECK.due("line", Games.line(navy, 10), "a.........");
        Games.type(navy, FULL_TEXT);
        CHECK.dueThrow("the 61st", Check.STATE, () -> navy.append(';'));
        CHECK.dueThrow("the 61st, wrong code", Check.ARGUMENT, () -> navy.append('\n'));
        navy.undo();
        CHECK.due("run", navy.run(), 8);
        CHECK.dueThrow("code 10", Check.ARGUMENT, () -> navy.append('\n'));
        CHECK.due("append", navy.append('e'), 1);
    }

    private static void actionsChangeNothing() {
        SpoonNavy navy = Games.started(Games.spoon(0, 0, 0, 4, 5), Games.spoon(1, 9, 9, 4, 5));
        CHECK.dueUnchanged("turnTo", navy, Check.ARGUMENT, () -> navy.turnTo(0, 8));
        CHECK.dueUnchanged("sail", navy, Check.ARGUMENT, () -> navy.sail(0, 4, true));
        CHECK.dueUnchanged("fire", navy, Check.ARGUMENT, () -> navy.fire(0, 0, 10));
        CHECK.dueUnchanged("load", navy, Check.ARGUMENT, () -> navy.load(0, 10));
        CHECK.dueUnchanged("start", navy, Check.STATE, () -> navy.start());
        CHECK.dueUnchanged("other fleet", navy, Check.STATE, () -> navy.turnTo(1, 0));
        CHECK.due("changes", navy.undo(), 2);
    }

    private static void exceptThatAReasonIsKept() {
        CHECK.sentence("Terms", "except that a reason is kept");
        SpoonNavy navy = Games.started(Games.spoon(0, 0, 0, 4, 5), Games.spoon(1, 9, 9, 4, 5));
        CHECK.dueThrow("wrong bearing", Check.ARGUMENT, () -> navy.turnTo(0, 8));
        CHECK.dueThrow("none", Check.NO_ELEMENT, () -> navy.refusalReason());
        CHECK.dueUnchanged("sail", navy, Check.UNSUPPORTED, () -> navy.sail(0, 1, false));
        CHECK.due("reason", navy.refusalReason(), 3);
        CHECK.dueThrow("no such spoon", Check.INDEX, () -> navy.turnTo(2, 0));
        CHECK.due("another exception keeps none", navy.refusalReason(), 3);
        CHECK.dueUnchanged("load", navy, Check.UNSUPPORTED, () -> navy.load(0, 5));
        CHECK.due("reason", navy.refusalReason(), 6);
    }

    private static void exceptForRun() {
        CHECK.sentence("Terms", "and that run clears the command text and sets the error position or the failed"
                + " command.");
        SpoonNavy navy = Games.started(Games.spoon(0, 0, 0, 4, 5), Games.spoon(1, 9, 9, 4, 5));
        Games.type(navy, "end;turn 1 0;end;endx");
        CHECK.dueUnchanged("no command text", navy, Check.ARGUMENT, () -> navy.run());
        CHECK.due("error position", navy.errorPosition(), 20);
        CHECK.dueThrow("no failed command", Check.NO_ELEMENT, () -> navy.failedCommand());
        CHECK.due("cleared", Games.run(navy, "end"), 1);
        Games.type(navy, "turn 1 0;end;turn 0 1;load 0 4;fire 0 01;end;sail 0 1");
        CHECK.dueUnchanged("a command fails", navy, Check.STATE, () -> navy.run());
        CHECK.due("failed command", navy.failedCommand(), 6);
        CHECK.due("error position", navy.errorPosition(), 20);
        CHECK.due("cleared", navy.append('e'), 1);
    }

    private static void firstExceptionOfActions() {
        CHECK.sentence("Terms, actions", "If several exceptions apply, the exception listed first is thrown.");
        SpoonNavy fresh = Games.prepared(Games.spoon(0, 0, 0, 4, 1), Games.spoon(1, 9, 9, 4, 1));
        CHECK.dueThrow("turnTo, all", Check.INDEX, () -> fresh.turnTo(2, 8));
        CHECK.dueThrow("sail, all", Check.INDEX, () -> fresh.sail(2, 0, true));
        CHECK.dueThrow("fire, all", Check.INDEX, () -> fresh.fire(2, 0, 10));
        CHECK.dueThrow("load, all", Check.INDEX, () -> fresh.load(2, 0));
        CHECK.dueThrow("turnTo, but the first", Check.ARGUMENT, () -> fresh.turnTo(0, 8));
        CHECK.dueThrow("sail, but the first", Check.ARGUMENT, () -> fresh.sail(0, 0, true));
        CHECK.dueThrow("fire, but the first", Check.ARGUMENT, () -> fresh.fire(0, 0, 10));
        CHECK.dueThrow("load, but the first", Check.ARGUMENT, () -> fresh.load(0, 0));
        fresh.start();
        Games.run(fresh, "turn 0 4;turn 0 4;turn 0 4");
        CHECK.dueThrow("turnTo, the last two", Check.STATE, () -> fresh.turnTo(1, 0));
        CHECK.dueThrow("sail, the last two", Check.STATE, () -> fresh.sail(1, 1, true));
        CHECK.dueThrow("fire, the last two", Check.STATE, () -> fresh.fire(1, 9, 9));
        CHECK.dueThrow("load, the last two", Check.STATE, () -> fresh.load(1, 9));
        CHECK.dueThrow("no reason is kept", Check.NO_ELEMENT, () -> fresh.refusalReason());
        CHECK.dueThrow("turnTo, the last", Check.UNSUPPORTED, () -> fresh.turnTo(0, 0));
        CHECK.dueThrow("sail, the last", Check.UNSUPPORTED, () -> fresh.sail(0, 1, true));
        CHECK.dueThrow("fire, the last", Check.UNSUPPORTED, () -> fresh.fire(0, 0, 0));
        CHECK.dueThrow("load, the last", Check.UNSUPPORTED, () -> fresh.load(0, 9));
    }

    private static void firstExceptionOfOthers() {
        CHECK.sentence("Terms, other calls", "If several exceptions apply, the exception listed first is thrown.");
        SpoonNavy navy = Games.withSunkSpoon();
        CHECK.dueThrow("addSpoon, all", Check.INDEX, () -> navy.addSpoon(2, 2, 2, 8, 0));
        CHECK.dueThrow("addSpoon, but the first", Check.ARGUMENT, () -> navy.addSpoon(0, 2, 2, 8, 1));
        CHECK.dueThrow("addSpoon, the last two", Check.STATE, () -> navy.addSpoon(0, 2, 2, 0, 1));
        CHECK.dueThrow("distance", Check.INDEX, () -> navy.distance(1, 3));
        CHECK.dueThrow("distance", Check.INDEX, () -> navy.distance(3, 1));
        CHECK.dueThrow("directionTo, all", Check.INDEX, () -> navy.directionTo(3, 10, 0));
        CHECK.dueThrow("directionTo, the last two", Check.ARGUMENT, () -> navy.directionTo(1, 10, 0));
        CHECK.dueThrow("isInReach", Check.INDEX, () -> navy.isInReach(3, 10, 0));
        CHECK.dueThrow("meanCubes", Check.INDEX, () -> new SpoonNavy().meanCubes(2));
        Games.type(navy, FULL_TEXT);
        CHECK.dueThrow("append", Check.ARGUMENT, () -> navy.append((char) 31));
    }
}
