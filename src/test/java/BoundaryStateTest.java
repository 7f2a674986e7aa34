/** Promises 43 to 54: each sentence that names a boundary has a test of its own. */
public final class BoundaryStateTest {

    private static final Check CHECK = new Check();

    public static void main(String[] args) {
        appendAnswers();
        appendOutOfRange();
        appendToAFullText();
        runInOrder();
        runAllOrNone();
        runEmptiesTheText();
        firstFailedCommand();
        everyCommandCanFail();
        runKeepsAReason();
        runOfNoCommandText();
        runOfAFailingText();
        errorPositionSetLast();
        noErrorPosition();
        latestFailedCommand();
        noFailedCommand();
        rowOfTheTray();
        rowOfTheFull();
        lettersOfTheSpoons();
        rowReplacesTheLine();
        rowOutOfRange();
        lineInitiallyEmpty();
        indexOfTheLine();
        shareOfHits();
        shareOfNoShots();
        meanOfTheFloating();
        meanOfNoFleet();
        meanOfNoSpoons();
        consistentAlways();
        undoLatest();
        undoAnswers();
        nothingToUndo();
        saveReplaces();
        saveAnswers();
        restoreKeepsTheSnapshot();
        nothingToUndoAfterRestore();
        restoreAnswers();
        restoreWithoutASnapshot();
        CHECK.finish();
    }

    // ---- promise 43

    private static void appendAnswers() {
        CHECK.sentence("Promise 43", "Returns the length of the command text after the call.");
        SpoonNavy navy = new SpoonNavy();
        for (int length = 1; length <= 60; length++) {
            CHECK.due("length", navy.append('x'), length);
        }
        CHECK.dueThrow("run", Check.ARGUMENT, () -> navy.run());
        CHECK.due("after run", navy.append('x'), 1);
    }

    private static void appendOutOfRange() {
        CHECK.sentence("Promise 43", "Throws `IllegalArgumentException` if the code of the character is not from 32 to"
                + " 126");
        SpoonNavy navy = new SpoonNavy();
        int[] outside = {0, 9, 10, 31, 127, 128, 160, 233, 256 + 32, 65535};
        for (int code : outside) {
            CHECK.dueThrow("code " + code, Check.ARGUMENT, () -> navy.append((char) code));
        }
        CHECK.due("none was appended", navy.append(' '), 1);
        CHECK.dueThrow("run", Check.ARGUMENT, () -> navy.run());
        SpoonNavy all = new SpoonNavy();
        for (int code = 32; code <= 126; code++) {
            if (code == 92) {
                CHECK.dueThrow("run of 60", Check.ARGUMENT, () -> all.run());
            }
            CHECK.due("code " + code, all.append((char) code), code < 92 ? code - 31 : code - 91);
        }
    }

    private static void appendToAFullText() {
        CHECK.sentence("Promise 43", "Throws `IllegalStateException` if the command text has 60 characters");
        SpoonNavy navy = Games.started(Games.spoon(0, 0, 0, 0, 1), Games.spoon(1, 9, 9, 4, 1));
        Games.type(navy, "end;".repeat(14) + "end");
        CHECK.due("the 60th", navy.append(';'), 60);
        CHECK.dueThrow("the 61st", Check.STATE, () -> navy.append('e'));
        CHECK.dueThrow("still the 61st", Check.STATE, () -> navy.append(';'));
        CHECK.dueThrow("run", Check.ARGUMENT, () -> navy.run());
        CHECK.due("it was not appended", navy.errorPosition(), 60);
    }

    // ---- promise 44

    private static void runInOrder() {
        CHECK.sentence("Promise 44", "Parses the command text and carries out its commands in order.");
        SpoonNavy navy = new SpoonNavy();
        CHECK.due("three", Games.run(navy, "spoon 0 00 14;spoon 1 99 51;start"), 3);
        CHECK.due("the first is spoon 0", navy.fleetOf(0), 0);
        CHECK.due("six", Games.run(navy, "turn 0 0;sail 0 2;turn 0 2;end;turn 1 4;sail 1 1"), 6);
        CHECK.due("x", navy.xOf(0), 0);
        CHECK.due("y", navy.yOf(0), 2);
        CHECK.due("bearing", navy.bearingOf(0), 2);
        CHECK.due("the other's y", navy.yOf(1), 8);
        CHECK.due("one", Games.run(navy, "end"), 1);
    }

    private static void runAllOrNone() {
        CHECK.sentence("Promise 44", "Either all commands are carried out, or none.");
        SpoonNavy navy = new SpoonNavy();
        Games.type(navy, "spoon 0 00 14;spoon 1 99 51;start;end;end;end;sail 0 4");
        CHECK.dueUnchanged("the last one fails", navy, Check.STATE, () -> navy.run());
        CHECK.due("no spoons", navy.spoonCount(), 0);
        CHECK.dueThrow("no change", Check.STATE, () -> navy.undo());
        SpoonNavy game = Games.started(Games.spoon(0, 2, 2, 0, 5), Games.spoon(1, 2, 4, 4, 3),
                Games.spoon(1, 9, 9, 4, 6));
        Games.type(game, "fire 0 24;fire 0 24;sneak 0 2;end;load 2 3;end;turn 1 0");
        CHECK.dueUnchanged("the sunk one can't turn", game, Check.STATE, () -> game.run());
        CHECK.due("it is not sunk", game.spoonAt(2, 4), 1);
        Games.type(game, "fire 0 24;fire 0 24;x");
        CHECK.dueUnchanged("no command text", game, Check.ARGUMENT, () -> game.run());
        CHECK.due("all", Games.run(game, "fire 0 24;fire 0 24;sneak 0 2;end;load 2 3;end"), 6);
        CHECK.due("the sunk one", game.isSunk(1), true);
        CHECK.due("the other's cubes", game.cubesOf(2), 9);
    }

    private static void runEmptiesTheText() {
        CHECK.sentence("Promise 44", "The command text is empty after the call, also if an exception is thrown.");
        SpoonNavy navy = Games.started(Games.spoon(0, 0, 0, 0, 1), Games.spoon(1, 9, 9, 4, 1));
        Games.run(navy, "end");
        CHECK.due("after a success", navy.append('e'), 1);
        CHECK.dueThrow("no command text", Check.ARGUMENT, () -> navy.run());
        CHECK.due("after no command text", navy.append('e'), 1);
        Games.type(navy, "nd;start");
        CHECK.dueThrow("a command fails", Check.STATE, () -> navy.run());
        CHECK.due("after a command failed", navy.append('e'), 1);
        SpoonNavy empty = new SpoonNavy();
        CHECK.dueThrow("an empty text", Check.ARGUMENT, () -> empty.run());
        CHECK.due("after an empty text", empty.append('e'), 1);
        SpoonNavy older = new SpoonNavy();
        Games.run(older, "spoon 0 12 34;spoon 1 99 51;start");
        dueError(older, "spoon 0 12 3", 12);
        dueError(older, "spoon ", 6);
        dueError(older, "spoon 0 12 34;", 14);
    }

    private static void firstFailedCommand() {
        CHECK.sentence("Promise 44", "The first command whose method would throw an exception is the failed command.");
        SpoonNavy navy = Games.started(Games.spoon(0, 0, 0, 0, 1), Games.spoon(1, 9, 9, 4, 1));
        dueFailed(navy, "start", 0);
        dueFailed(navy, "start;start;start", 0);
        dueFailed(navy, "end;start;turn 9 9", 1);
        dueFailed(navy, "end;".repeat(13) + "start", 13);
        dueFailed(navy, "turn 0 1;turn 0 2;turn 0 3;turn 0 4", 3);
        dueFailed(navy, "end;turn 1 0;turn 0 0", 2);
    }

    private static void everyCommandCanFail() {
        CHECK.sentence("Promise 44, each command and exception", "The first command whose method would throw an"
                + " exception is the failed command.");
        SpoonNavy prepared = Games.prepared(Games.spoon(0, 0, 0, 0, 1), Games.spoon(1, 9, 9, 4, 1));
        String[] beforeTheStart = {"spoon 2 11 11", "spoon 0 11 81", "spoon 0 11 10", "spoon 0 00 11", "turn 0 1",
            "sail 0 1", "sneak 0 1", "fire 0 01", "load 0 1", "end"};
        for (String text : beforeTheStart) {
            dueFailed(prepared, "spoon 1 44 11;" + text, 1);
        }
        CHECK.dueThrow("no reason is kept", Check.NO_ELEMENT, () -> prepared.refusalReason());
        SpoonNavy navy = Games.started(Games.spoon(0, 0, 0, 0, 1), Games.spoon(1, 9, 9, 4, 1));
        String[] afterTheStart = {"spoon 0 11 11", "start", "turn 2 0", "turn 0 8", "turn 1 0", "sail 2 1", "sail 0 0",
            "sail 0 4", "sail 1 1", "sneak 99 1", "sneak 0 4", "sneak 1 1", "fire 2 01", "fire 1 98", "load 2 1",
            "load 0 0", "load 1 1"};
        for (String text : afterTheStart) {
            dueFailed(navy, "turn 0 0;" + text, 1);
        }
        CHECK.dueThrow("no reason is kept", Check.NO_ELEMENT, () -> navy.refusalReason());
        SpoonNavy finished = Games.started(Games.spoon(0, 2, 2, 0, 5), Games.spoon(1, 2, 4, 4, 3));
        dueFailed(finished, "fire 0 24;fire 0 24;end", 2);
        dueFailed(finished, "fire 0 24;fire 0 24;turn 0 1", 2);
    }

    private static void dueFailed(SpoonNavy navy, String text, int index) {
        Games.type(navy, text);
        CHECK.dueThrow(text, Check.STATE, () -> navy.run());
        CHECK.due("failed command of " + text, navy.failedCommand(), index);
    }

    private static void runKeepsAReason() {
        CHECK.sentence("Promise 44", "If it is a refused action, its reason is kept.");
        String[] texts = {"turn 0 0;turn 0 0;turn 0 0;turn 0 0", "sneak 0 1;sneak 0 1;sneak 0 1",
            "turn 0 6;sail 0 1", "fire 0 00", "turn 0 2;fire 0 01", "load 0 8"};
        for (int reason = 1; reason <= 6; reason++) {
            SpoonNavy navy = Games.started(Games.spoon(0, 0, 0, 1, 2), Games.spoon(1, 9, 9, 4, 1));
            String text = texts[reason - 1];
            Games.type(navy, text);
            CHECK.dueThrow(text, Check.STATE, () -> navy.run());
            CHECK.due(text, navy.refusalReason(), reason);
            dueFailed(navy, "turn 1 0", 0);
            CHECK.due("a failed command that is no refused action", navy.refusalReason(), reason);
        }
        SpoonNavy none = Games.started(Games.spoon(0, 0, 0, 1, 2), Games.spoon(1, 9, 9, 4, 1));
        dueFailed(none, "turn 1 0", 0);
        CHECK.dueThrow("none", Check.NO_ELEMENT, () -> none.refusalReason());
    }

    private static void runOfNoCommandText() {
        CHECK.sentence("Promise 44", "Throws `IllegalArgumentException` if the text is not a command text; the error"
                + " position is set and the failed command is left as it is");
        SpoonNavy navy = Games.started(Games.spoon(0, 0, 0, 0, 1), Games.spoon(1, 9, 9, 4, 1));
        CHECK.dueThrow("empty", Check.ARGUMENT, () -> navy.run());
        CHECK.due("empty", navy.errorPosition(), 0);
        CHECK.dueThrow("none", Check.NO_ELEMENT, () -> navy.failedCommand());
        dueFailed(navy, "end;start", 1);
        Games.type(navy, "start;en");
        CHECK.dueThrow("the failing command is not asked", Check.ARGUMENT, () -> navy.run());
        CHECK.due("error position", navy.errorPosition(), 8);
        CHECK.due("failed command", navy.failedCommand(), 1);
    }

    private static void runOfAFailingText() {
        CHECK.sentence("Promise 44", "Throws `IllegalStateException` if a command fails; the failed command is set and"
                + " the error position is left as it is");
        SpoonNavy navy = Games.started(Games.spoon(0, 0, 0, 0, 1), Games.spoon(1, 9, 9, 4, 1));
        dueFailed(navy, "end;end;start", 2);
        CHECK.dueThrow("none", Check.NO_ELEMENT, () -> navy.errorPosition());
        Games.type(navy, "endx");
        CHECK.dueThrow("endx", Check.ARGUMENT, () -> navy.run());
        dueFailed(navy, "sail 0 0", 0);
        CHECK.due("error position", navy.errorPosition(), 3);
    }

    // ---- promises 45 and 46

    private static void errorPositionSetLast() {
        CHECK.sentence("Promise 45", "Returns the error position that was set last.");
        SpoonNavy navy = Games.started(Games.spoon(0, 0, 0, 0, 1), Games.spoon(1, 9, 9, 4, 1));
        dueError(navy, "end;".repeat(15), 60);
        dueError(navy, "turn 0 1x", 8);
        Games.run(navy, "end");
        CHECK.due("after a success", navy.errorPosition(), 8);
        dueError(navy, "", 0);
        CHECK.due("asked again", navy.errorPosition(), 0);
        dueError(navy, "e", 1);
    }

    private static void dueError(SpoonNavy navy, String text, int position) {
        Games.type(navy, text);
        CHECK.dueThrow("\"" + text + "\"", Check.ARGUMENT, () -> navy.run());
        CHECK.due("error position of \"" + text + "\"", navy.errorPosition(), position);
    }

    private static void noErrorPosition() {
        CHECK.sentence("Promise 45", "Throws `NoSuchElementException` if no error position was set");
        SpoonNavy navy = Games.started(Games.spoon(0, 0, 0, 0, 1), Games.spoon(1, 9, 9, 4, 1));
        CHECK.dueThrow("new", Check.NO_ELEMENT, () -> navy.errorPosition());
        Games.run(navy, "end");
        dueFailed(navy, "start", 0);
        Games.type(navy, "xyz");
        CHECK.dueThrow("not run yet", Check.NO_ELEMENT, () -> navy.errorPosition());
    }

    private static void latestFailedCommand() {
        CHECK.sentence("Promise 46", "Returns the index of the failed command of the latest run in which a command"
                + " failed.");
        SpoonNavy navy = Games.started(Games.spoon(0, 0, 0, 0, 1), Games.spoon(1, 9, 9, 4, 1));
        dueFailed(navy, "end;end;start", 2);
        Games.run(navy, "end;end");
        CHECK.due("after a success", navy.failedCommand(), 2);
        dueError(navy, "end;end;end;start;x", 18);
        CHECK.due("after no command text", navy.failedCommand(), 2);
        CHECK.dueThrow("start", Check.STATE, () -> navy.start());
        CHECK.due("after a call that failed", navy.failedCommand(), 2);
        dueFailed(navy, "start", 0);
        dueFailed(navy, "end;".repeat(13) + "start", 13);
    }

    private static void noFailedCommand() {
        CHECK.sentence("Promise 46", "Throws `NoSuchElementException` if no command has failed");
        SpoonNavy navy = Games.started(Games.spoon(0, 0, 0, 0, 1), Games.spoon(1, 9, 9, 4, 1));
        CHECK.dueThrow("new", Check.NO_ELEMENT, () -> navy.failedCommand());
        Games.run(navy, "end");
        dueError(navy, "start;x", 6);
        CHECK.dueThrow("sail", Check.STATE, () -> navy.sail(0, 1, false));
        CHECK.dueThrow("a failed call is no failed command", Check.NO_ELEMENT, () -> navy.failedCommand());
    }

    // ---- promises 47 and 48

    private static void rowOfTheTray() {
        CHECK.sentence("Promise 47", "for each cell from x 0 to x 9 the letter of the spoon in it, or \".\" if no spoon"
                + " is in it.");
        SpoonNavy navy = Games.started(Games.spoon(0, 2, 5, 0, 9), Games.spoon(0, 0, 0, 0, 1),
                Games.spoon(1, 6, 5, 6, 1), Games.spoon(1, 9, 9, 0, 1));
        CHECK.due("row 5", Games.row(navy, 5), "..a...C...");
        CHECK.due("the lowest, x 0", Games.row(navy, 0), "b.........");
        CHECK.due("the highest, x 9", Games.row(navy, 9), ".........D");
        CHECK.due("no spoons", Games.row(navy, 1), "..........");
        CHECK.due("length", navy.describeRow(1), 10);
        navy.sail(0, 1, true);
        CHECK.due("where a hidden one is known", Games.row(navy, 5), "......C...");
        CHECK.due("where it is", Games.row(navy, 6), "..a.......");
        CHECK.due("a sunk one", Games.row(Games.withSunkSpoon(), 4), "..........");
    }

    private static void rowOfTheFull() {
        CHECK.sentence("Promise 47, ten spoons in a row", "for each cell from x 0 to x 9 the letter of the spoon in"
                + " it");
        CHECK.due("row 0", Games.row(Games.twelve(), 0), "aBcDeFgHiJ");
    }

    private static void lettersOfTheSpoons() {
        CHECK.sentence("Promise 47",
                "The letters of the spoons 0 to 11 are a to l; the letter of a spoon of fleet 1 is a"
                + " capital.");
        SpoonNavy navy = new SpoonNavy();
        SpoonNavy mirrored = new SpoonNavy();
        for (int spoon = 0; spoon < 12; spoon++) {
            navy.addSpoon(spoon < 6 ? 0 : 1, spoon % 6, spoon / 6, 0, 1);
            mirrored.addSpoon(spoon < 6 ? 1 : 0, spoon % 6, spoon / 6, 0, 1);
        }
        CHECK.due("0 to 5 of fleet 0", Games.row(navy, 0), "abcdef....");
        CHECK.due("6 to 11 of fleet 1", Games.row(navy, 1), "GHIJKL....");
        CHECK.due("0 to 5 of fleet 1", Games.row(mirrored, 0), "ABCDEF....");
        CHECK.due("6 to 11 of fleet 0", Games.row(mirrored, 1), "ghijkl....");
    }

    private static void rowReplacesTheLine() {
        CHECK.sentence("Promise 47", "Writes a row of the tray to the line, replacing its previous content");
        SpoonNavy navy = Games.prepared(Games.spoon(0, 0, 0, 0, 1), Games.spoon(1, 9, 9, 0, 1));
        navy.describeRow(0);
        CHECK.due("length again", navy.describeRow(9), 10);
        CHECK.due("second", Games.line(navy, 10), ".........B");
        CHECK.dueThrow("no longer than that", Check.INDEX, () -> navy.lineAt(10));
        navy.undo();
        CHECK.due("the line is as it was written", Games.line(navy, 10), ".........B");
    }

    private static void rowOutOfRange() {
        CHECK.sentence("Promise 47", "Throws `IllegalArgumentException` if the coordinate is out of range");
        SpoonNavy navy = Games.prepared(Games.spoon(0, 0, 0, 0, 1));
        CHECK.dueThrowOutside("y", 0, 9, Check.ARGUMENT, y -> navy.describeRow(y));
        CHECK.dueThrow("the line is empty", Check.INDEX, () -> navy.lineAt(0));
        navy.describeRow(0);
        CHECK.dueThrowOutside("y", 0, 9, Check.ARGUMENT, y -> navy.describeRow(y));
        CHECK.due("the line is left", Games.line(navy, 10), "a.........");
    }

    private static void lineInitiallyEmpty() {
        CHECK.sentence("Promise 48", "The line is initially empty.");
        SpoonNavy navy = Games.prepared(Games.spoon(0, 0, 0, 0, 1));
        for (int index = -1; index <= 10; index++) {
            int asked = index;
            CHECK.dueThrow("index " + index, Check.INDEX, () -> navy.lineAt(asked));
        }
    }

    private static void indexOfTheLine() {
        CHECK.sentence("Promise 48", "Throws `IndexOutOfBoundsException` if there is no such index");
        SpoonNavy navy = Games.prepared(Games.spoon(0, 0, 0, 0, 1), Games.spoon(1, 9, 0, 0, 1));
        navy.describeRow(0);
        CHECK.dueThrowOutside("index", 0, 9, Check.INDEX, index -> navy.lineAt(index));
        CHECK.due("lowest", navy.lineAt(0), 'a');
        CHECK.due("highest", navy.lineAt(9), 'B');
    }

    // ---- promises 49 and 50

    private static void shareOfHits() {
        CHECK.sentence("Promise 49",
                "Returns the share of the shots so far by which a spoon was hit or sunk, both numbers"
                + " converted to float.");
        SpoonNavy navy = Games.started(Games.spoon(0, 2, 2, 0, 9), Games.spoon(1, 2, 4, 4, 3),
                Games.spoon(1, 9, 9, 4, 6));
        navy.fire(0, 2, 3);
        CHECK.dueExactly("none of one", navy.hitShare(), 0.0);
        navy.fire(0, 2, 4);
        CHECK.dueExactly("one of two", navy.hitShare(), 0.5);
        navy.fire(0, 2, 3);
        CHECK.dueExactly("one of three, as a float", navy.hitShare(), 1.0f / 3.0f);
        Games.run(navy, "end;end;fire 0 24");
        CHECK.dueExactly("sunk", navy.hitShare(), 0.5);
        CHECK.dueExactly("all", Games.finished().hitShare(), 1.0);
    }

    private static void shareOfNoShots() {
        CHECK.sentence("Promise 49", "Throws `ArithmeticException` if there was no shot");
        SpoonNavy fresh = new SpoonNavy();
        CHECK.dueThrow("new", Check.ARITHMETIC, () -> fresh.hitShare());
        SpoonNavy navy = Games.started(Games.spoon(0, 0, 0, 0, 3), Games.spoon(1, 9, 9, 4, 6));
        CHECK.dueRefusal("refused", navy, 4, () -> navy.fire(0, 0, 0));
        CHECK.dueThrow("a refused one", Check.ARITHMETIC, () -> navy.hitShare());
        navy.fire(0, 0, 1);
        navy.undo();
        CHECK.dueThrow("an undone one", Check.ARITHMETIC, () -> navy.hitShare());
    }

    private static void meanOfTheFloating() {
        CHECK.sentence("Promise 50",
                "Returns the mean number of cubes on the spoons of a fleet that are not sunk: the sum"
                + " divided by their number, both converted to double.");
        SpoonNavy navy = Games.started(Games.spoon(0, 2, 2, 0, 9), Games.spoon(1, 2, 4, 4, 3),
                Games.spoon(1, 9, 9, 4, 1), Games.spoon(1, 0, 9, 4, 1));
        CHECK.dueExactly("5 on 3", navy.meanCubes(1), 5.0 / 3.0);
        navy.fire(0, 2, 4);
        CHECK.dueExactly("hit once", navy.meanCubes(1), 5.0 / 3.0);
        navy.fire(0, 2, 4);
        CHECK.dueExactly("2 on 2", navy.meanCubes(1), 1.0);
        CHECK.dueExactly("7 on 1", navy.meanCubes(0), 7.0);
        SpoonNavy empty = Games.started(Games.spoon(0, 0, 0, 0, 1), Games.spoon(1, 9, 9, 4, 6));
        empty.fire(0, 0, 1);
        CHECK.dueExactly("0 on 1", empty.meanCubes(0), 0.0);
    }

    private static void meanOfNoFleet() {
        CHECK.sentence("Promise 50", "Throws `IndexOutOfBoundsException` if there is no such fleet");
        CHECK.dueNoSuchFleet((navy, fleet) -> navy.meanCubes(fleet));
    }

    private static void meanOfNoSpoons() {
        CHECK.sentence("Promise 50",
                "Throws `ArithmeticException` if all spoons of the fleet are sunk, or it has none");
        SpoonNavy none = new SpoonNavy();
        CHECK.dueThrow("fleet 0 has none", Check.ARITHMETIC, () -> none.meanCubes(0));
        CHECK.dueThrow("fleet 1 has none", Check.ARITHMETIC, () -> none.meanCubes(1));
        SpoonNavy finished = Games.finished();
        CHECK.dueThrow("fleet 1 is sunk", Check.ARITHMETIC, () -> finished.meanCubes(1));
        SpoonNavy lost = Games.lost();
        CHECK.dueThrow("fleet 0 is sunk", Check.ARITHMETIC, () -> lost.meanCubes(0));
        lost.undo();
        CHECK.dueExactly("hit once", lost.meanCubes(0), 3.0);
    }

    // ---- promise 51

    private static void consistentAlways() {
        CHECK.sentence("Promise 51", "Returns whether all of them hold.");
        CHECK.due("new", new SpoonNavy().isConsistent(), true);
        CHECK.due("twelve", Games.twelve().isConsistent(), true);
        CHECK.due("finished", Games.finished().isConsistent(), true);
        CHECK.due("finished by fleet 1", Games.lost().isConsistent(), true);
        SpoonNavy navy = Games.withSunkSpoon();
        navy.sail(0, 2, true);
        CHECK.due("in a sunk one's cell", navy.isConsistent(), true);
        Games.run(navy, "end;load 2 3;sneak 2 1;end;load 0 3;fire 0 25");
        CHECK.due("all accounts", navy.isConsistent(), true);
        navy.undo();
        CHECK.due("undone", navy.isConsistent(), true);
    }

    // ---- promise 52

    private static void undoLatest() {
        CHECK.sentence("Promise 52", "Undoes the latest change that has not been undone.");
        SpoonNavy navy = Games.started(Games.spoon(0, 0, 0, 0, 3), Games.spoon(1, 9, 9, 4, 3));
        navy.turnTo(0, 1);
        navy.turnTo(0, 2);
        navy.undo();
        CHECK.due("the latest", navy.bearingOf(0), 1);
        navy.undo();
        CHECK.due("the one before it", navy.bearingOf(0), 0);
        navy.turnTo(0, 5);
        navy.turnTo(0, 6);
        navy.undo();
        navy.turnTo(0, 7);
        navy.undo();
        CHECK.due("an undone one is not undone again", navy.bearingOf(0), 5);
        navy.undo();
        CHECK.due("the one before both", navy.bearingOf(0), 0);
    }

    private static void undoAnswers() {
        CHECK.sentence("Promise 52", "Returns the number of changes that can still be undone.");
        SpoonNavy navy = Games.started(Games.spoon(0, 0, 0, 0, 3), Games.spoon(1, 9, 9, 4, 3));
        CHECK.due("the third", navy.undo(), 2);
        CHECK.due("the second", navy.undo(), 1);
        CHECK.due("the first", navy.undo(), 0);
        SpoonNavy full = Games.twelve();
        for (int left = 7; left >= 0; left--) {
            CHECK.due("of twelve", full.undo(), left);
        }
        CHECK.due("spoons", full.spoonCount(), 4);
        full.addSpoon(0, 9, 9, 0, 1);
        CHECK.due("a new one", full.undo(), 0);
    }

    private static void nothingToUndo() {
        CHECK.sentence("Promise 52", "Throws `IllegalStateException` if there is no change to undo");
        SpoonNavy fresh = new SpoonNavy();
        CHECK.dueThrow("new", Check.STATE, () -> fresh.undo());
        SpoonNavy full = Games.twelve();
        for (int undone = 0; undone < 8; undone++) {
            full.undo();
        }
        CHECK.dueThrow("the ninth", Check.STATE, () -> full.undo());
        CHECK.dueThrow("the ninth again", Check.STATE, () -> full.undo());
        CHECK.due("spoons", full.spoonCount(), 4);
        full.start();
        CHECK.due("a new one", full.undo(), 0);
        CHECK.dueThrow("that was all", Check.STATE, () -> full.undo());
    }

    // ---- promises 53 and 54

    private static void saveReplaces() {
        CHECK.sentence("Promise 53", "Saves everything that changes can change as the snapshot, replacing an earlier"
                + " snapshot.");
        SpoonNavy navy = new SpoonNavy();
        navy.save();
        navy.addSpoon(0, 0, 0, 0, 3);
        navy.save();
        navy.addSpoon(1, 9, 9, 4, 3);
        CHECK.due("the later one", navy.restore(), 1);
        navy.addSpoon(1, 5, 5, 4, 3);
        navy.start();
        navy.save();
        CHECK.due("save takes nothing back", navy.undo(), 1);
        CHECK.due("nor does undo take the snapshot back", navy.restore(), 2);
        CHECK.due("started", navy.isStarted(), true);
    }

    private static void saveAnswers() {
        CHECK.sentence("Promise 53", "Returns the number of spoons.");
        CHECK.due("none", new SpoonNavy().save(), 0);
        CHECK.due("twelve", Games.twelve().save(), 12);
        CHECK.due("sunk ones too", Games.finished().save(), 2);
    }

    private static void restoreKeepsTheSnapshot() {
        CHECK.sentence("Promise 54", "Restores the snapshot, which is kept.");
        SpoonNavy navy = Games.withSunkSpoon();
        String saved = Games.stateOf(navy);
        navy.save();
        for (int time = 0; time < 3; time++) {
            Games.run(navy, "sneak 0 1;end;load 2 3");
            navy.endTurn();
            navy.restore();
            CHECK.due("state", Games.stateOf(navy), saved);
        }
        navy.restore();
        CHECK.due("at once again", navy.spoonCount(), 3);
    }

    private static void nothingToUndoAfterRestore() {
        CHECK.sentence("Promise 54", "After the call no change can be undone.");
        SpoonNavy navy = Games.twelve();
        navy.save();
        navy.restore();
        CHECK.dueThrow("nothing", Check.STATE, () -> navy.undo());
        navy.start();
        CHECK.due("one since", navy.undo(), 0);
        CHECK.dueThrow("nothing more", Check.STATE, () -> navy.undo());
        CHECK.due("spoons", navy.spoonCount(), 12);
    }

    private static void restoreAnswers() {
        CHECK.sentence("Promise 54", "Returns the number of spoons.");
        SpoonNavy navy = new SpoonNavy();
        navy.save();
        navy.addSpoon(0, 0, 0, 0, 1);
        CHECK.due("none", navy.restore(), 0);
        SpoonNavy twelve = Games.twelve();
        twelve.save();
        twelve.undo();
        CHECK.due("twelve", twelve.restore(), 12);
        SpoonNavy sunk = Games.withSunkSpoon();
        sunk.save();
        CHECK.due("sunk ones too", sunk.restore(), 3);
    }

    private static void restoreWithoutASnapshot() {
        CHECK.sentence("Promise 54", "Throws `IllegalStateException` if there is no snapshot");
        SpoonNavy navy = Games.withSunkSpoon();
        CHECK.dueUnchanged("none", navy, Check.STATE, () -> navy.restore());
        CHECK.due("the changes can still be undone", navy.undo(), 5);
        SpoonNavy fresh = new SpoonNavy();
        CHECK.dueThrow("new", Check.STATE, () -> fresh.restore());
        fresh.save();
        CHECK.due("an empty one", fresh.restore(), 0);
    }
}
