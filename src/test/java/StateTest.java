/** Promises 47 to 54: the line, statistics, undo and the snapshot. */
public final class StateTest {

    private static final Check CHECK = new Check();
    private static final int[] NO_FLEETS = {-1, 2, Integer.MIN_VALUE, Integer.MAX_VALUE};

    public static void main(String[] args) {
        describeRow();
        lineAt();
        hitShare();
        meanCubes();
        isConsistent();
        undo();
        undoOfEachChange();
        whatIsNoChange();
        save();
        restore();
        CHECK.finish();
    }

    private static void describeRow() {
        CHECK.promise(47, "describeRow");
        SpoonNavy navy = new SpoonNavy();
        navy.addSpoon(0, 2, 5, 0, 1);
        navy.addSpoon(0, 9, 9, 0, 1);
        navy.addSpoon(1, 6, 5, 0, 1);
        CHECK.due("length", navy.describeRow(5), 10);
        CHECK.due("row 5", Games.line(navy, 10), "..a...C...");
        CHECK.due("row 9", Games.row(navy, 9), ".........b");
        CHECK.due("row 0", Games.row(navy, 0), "..........");
        int[] wrongRows = {-1, 10, Integer.MIN_VALUE, Integer.MAX_VALUE};
        navy.describeRow(5);
        for (int wrong : wrongRows) {
            CHECK.dueThrow("row " + wrong, Check.ARGUMENT, () -> navy.describeRow(wrong));
        }
        CHECK.due("the line is left alone", Games.line(navy, 10), "..a...C...");
        SpoonNavy full = new SpoonNavy();
        for (int spoon = 0; spoon < 12; spoon++) {
            full.addSpoon(spoon % 2, spoon % 10, spoon / 10, 0, 1);
        }
        CHECK.due("row 0", Games.row(full, 0), "aBcDeFgHiJ");
        CHECK.due("row 1", Games.row(full, 1), "kL........");
        SpoonNavy sunk = Games.withSunkSpoon();
        CHECK.due("a sunk spoon is in no cell", Games.row(sunk, 4), "..........");
        CHECK.due("row 2", Games.row(sunk, 2), "..a.......");
    }

    private static void lineAt() {
        CHECK.promise(48, "lineAt");
        SpoonNavy navy = Games.prepared(Games.spoon(1, 0, 5, 0, 1), Games.spoon(0, 9, 5, 0, 1));
        int[] noIndexes = {0, 9, -1, 10, Integer.MIN_VALUE, Integer.MAX_VALUE};
        for (int none : noIndexes) {
            CHECK.dueThrow("empty line, " + none, Check.INDEX, () -> navy.lineAt(none));
        }
        navy.describeRow(5);
        CHECK.due("first", navy.lineAt(0), 'A');
        CHECK.due("second", navy.lineAt(1), '.');
        CHECK.due("last", navy.lineAt(9), 'b');
        for (int i = 2; i < noIndexes.length; i++) {
            int none = noIndexes[i];
            CHECK.dueThrow("index " + none, Check.INDEX, () -> navy.lineAt(none));
        }
        navy.save();
        navy.undo();
        CHECK.due("undo leaves the line", navy.lineAt(9), 'b');
        navy.describeRow(0);
        navy.restore();
        CHECK.due("restore leaves the line", navy.lineAt(9), '.');
    }

    private static void hitShare() {
        CHECK.promise(49, "hitShare");
        SpoonNavy navy = Games.started(Games.spoon(0, 2, 2, 0, 5), Games.spoon(1, 2, 4, 4, 3),
                Games.spoon(1, 9, 9, 0, 1));
        CHECK.dueThrow("no shot", Check.ARITHMETIC, () -> navy.hitShare());
        navy.fire(0, 2, 3);
        CHECK.dueExactly("none of one", navy.hitShare(), 0.0);
        navy.fire(0, 2, 4);
        CHECK.dueExactly("one of two", navy.hitShare(), 0.5);
        navy.fire(0, 2, 3);
        CHECK.dueExactly("one of three", navy.hitShare(), 1.0f / 3.0f);
        navy.endTurn();
        navy.endTurn();
        navy.fire(0, 2, 4);
        CHECK.dueExactly("sunk counts", navy.hitShare(), 0.5);
        CHECK.dueExactly("all", Games.finished().hitShare(), 1.0);
    }

    private static void meanCubes() {
        CHECK.promise(50, "meanCubes");
        SpoonNavy navy = new SpoonNavy();
        CHECK.dueThrow("it has none", Check.ARITHMETIC, () -> navy.meanCubes(0));
        navy.addSpoon(0, 0, 0, 0, 1);
        navy.addSpoon(0, 1, 0, 0, 2);
        navy.addSpoon(0, 2, 0, 0, 2);
        navy.addSpoon(1, 3, 0, 0, 9);
        CHECK.dueExactly("5 on 3", navy.meanCubes(0), 5.0 / 3.0);
        CHECK.dueExactly("9 on 1", navy.meanCubes(1), 9.0);
        for (int none : NO_FLEETS) {
            CHECK.dueThrow("fleet " + none, Check.INDEX, () -> navy.meanCubes(none));
        }
        CHECK.dueExactly("sunk ones do not count", Games.withSunkSpoon().meanCubes(1), 6.0);
        SpoonNavy finished = Games.finished();
        CHECK.dueThrow("all sunk", Check.ARITHMETIC, () -> finished.meanCubes(1));
        CHECK.dueExactly("the winner", finished.meanCubes(0), 3.0);
    }

    private static void isConsistent() {
        CHECK.promise(51, "isConsistent");
        CHECK.due("new", new SpoonNavy().isConsistent(), true);
        CHECK.due("with a sunk spoon", Games.withSunkSpoon().isConsistent(), true);
        CHECK.due("finished", Games.finished().isConsistent(), true);
        SpoonNavy navy = Games.withSunkSpoon();
        navy.sail(0, 2, false);
        CHECK.due("in the sunk spoon's cell", navy.spoonAt(2, 4), 0);
        CHECK.due("in the sunk spoon's cell", navy.isConsistent(), true);
        navy.undo();
        CHECK.due("after undo", navy.isConsistent(), true);
    }

    private static void undo() {
        CHECK.promise(52, "undo");
        SpoonNavy navy = Games.started(Games.spoon(0, 0, 0, 0, 3), Games.spoon(1, 9, 9, 4, 3));
        for (int turn = 0; turn < 10; turn++) {
            navy.endTurn();
        }
        for (int left = 7; left >= 0; left--) {
            CHECK.due("undo", navy.undo(), left);
            CHECK.due("turnCount", navy.turnCount(), left + 2);
        }
        CHECK.dueThrow("the ninth", Check.STATE, () -> navy.undo());
        CHECK.due("turnCount", navy.turnCount(), 2);
        navy.endTurn();
        navy.endTurn();
        CHECK.due("undo after new changes", navy.undo(), 1);
        navy.endTurn();
        CHECK.due("undo after a new change", navy.undo(), 1);
        CHECK.due("undo of the older one", navy.undo(), 0);
        SpoonNavy fresh = new SpoonNavy();
        CHECK.dueThrow("new", Check.STATE, () -> fresh.undo());
        SpoonNavy added = new SpoonNavy();
        added.addSpoon(1, 4, 4, 4, 4);
        CHECK.due("addSpoon", added.undo(), 0);
        CHECK.dueThrow("no spoon any more", Check.INDEX, () -> added.xOf(0));
        CHECK.dueThrow("nothing in the cell", Check.NO_ELEMENT, () -> added.spoonAt(4, 4));
        CHECK.due("account", added.fleetCubesByAccount(1), 0);
        for (int spoon = 0; spoon < 6; spoon++) {
            CHECK.due("room for six", added.addSpoon(1, spoon, 0, 0, 1), spoon);
        }
    }

    private static void undoOfEachChange() {
        SpoonNavy navy = Games.prepared(Games.spoon(0, 2, 2, 0, 5), Games.spoon(1, 2, 4, 4, 3),
                Games.spoon(1, 9, 9, 4, 6));
        CHECK.due("addSpoon", navy.undo(), 2);
        CHECK.due("addSpoon", navy.spoonCount(), 2);
        navy.addSpoon(1, 9, 9, 4, 6);
        navy.start();
        navy.undo();
        CHECK.due("start", navy.isStarted(), false);
        CHECK.due("the spoon stays", navy.spoonCount(), 3);
        navy.start();
        String start = Games.stateOf(navy);
        navy.turnTo(0, 3);
        navy.undo();
        CHECK.due("turnTo", Games.stateOf(navy), start);
        navy.sail(0, 1, true);
        navy.undo();
        CHECK.due("sail", Games.stateOf(navy), start);
        navy.load(0, 1);
        String loaded = Games.stateOf(navy);
        navy.load(0, 2);
        navy.undo();
        CHECK.due("second load", Games.stateOf(navy), loaded);
        navy.undo();
        CHECK.due("load", Games.stateOf(navy), start);
        navy.endTurn();
        navy.undo();
        CHECK.due("endTurn", Games.stateOf(navy), start);
        undoOfShotsAndTexts();
    }

    private static void undoOfShotsAndTexts() {
        SpoonNavy navy = Games.started(Games.spoon(0, 2, 2, 0, 5), Games.spoon(1, 2, 4, 4, 3),
                Games.spoon(1, 9, 9, 4, 6));
        String start = Games.stateOf(navy);
        navy.fire(0, 2, 4);
        String hit = Games.stateOf(navy);
        navy.fire(0, 2, 4);
        navy.undo();
        CHECK.due("second fire", Games.stateOf(navy), hit);
        navy.undo();
        CHECK.due("fire", Games.stateOf(navy), start);
        Games.run(navy, "fire 0 24;fire 0 24;load 0 3;end;turn 2 5;sneak 2 3");
        navy.undo();
        CHECK.due("run", Games.stateOf(navy), start);
        navy.endTurn();
        navy.turnTo(2, 5);
        navy.sail(2, 2, true);
        String hidden = Games.stateOf(navy);
        navy.sail(2, 1, false);
        navy.undo();
        CHECK.due("open sailing", Games.stateOf(navy), hidden);
    }

    private static void whatIsNoChange() {
        SpoonNavy navy = Games.started(Games.spoon(0, 0, 0, 0, 3), Games.spoon(1, 9, 9, 4, 3));
        navy.turnTo(0, 0);
        CHECK.due("a change by which nothing but an action differs", navy.undo(), 3);
        CHECK.dueRefusal("fire", navy, 5, () -> navy.fire(0, 3, 0));
        CHECK.dueThrow("turnTo", Check.STATE, () -> navy.turnTo(1, 0));
        Games.type(navy, "end;start");
        CHECK.dueThrow("run", Check.STATE, () -> navy.run());
        navy.describeRow(0);
        navy.save();
        CHECK.due("the latest change is the start", navy.undo(), 2);
        CHECK.due("isStarted", navy.isStarted(), false);
        Games.type(navy, "star");
        navy.undo();
        CHECK.due("undo leaves the text", navy.append('t'), 5);
    }

    private static void save() {
        CHECK.promise(53, "save");
        SpoonNavy navy = new SpoonNavy();
        CHECK.due("none", navy.save(), 0);
        navy.addSpoon(0, 0, 0, 0, 3);
        navy.addSpoon(1, 9, 9, 4, 3);
        CHECK.due("two", navy.save(), 2);
        navy.undo();
        CHECK.due("replaced", navy.restore(), 2);
        CHECK.due("sunk ones included", Games.withSunkSpoon().save(), 3);
    }

    private static void restore() {
        CHECK.promise(54, "restore");
        SpoonNavy navy = Games.withSunkSpoon();
        CHECK.dueThrow("no snapshot", Check.STATE, () -> navy.restore());
        CHECK.due("a failed restore leaves the changes", navy.undo(), 5);
        navy.fire(0, 2, 4);
        navy.endTurn();
        navy.turnTo(2, 5);
        navy.sail(2, 2, true);
        String saved = Games.stateOf(navy);
        navy.save();
        navy.load(2, 3);
        navy.endTurn();
        navy.fire(0, 2, 3);
        navy.sail(0, 3, false);
        CHECK.due("restore", navy.restore(), 3);
        CHECK.due("state", Games.stateOf(navy), saved);
        CHECK.dueThrow("nothing to undo", Check.STATE, () -> navy.undo());
        navy.endTurn();
        CHECK.due("one change since", navy.undo(), 0);
        navy.endTurn();
        Games.type(navy, "en");
        CHECK.due("the snapshot is kept", navy.restore(), 3);
        CHECK.due("state again", Games.stateOf(navy), saved);
        CHECK.due("restore leaves the text", navy.append('d'), 3);
        restoreOfAnotherFleet();
    }

    private static void restoreOfAnotherFleet() {
        SpoonNavy navy = Games.prepared(Games.spoon(0, 1, 2, 3, 4));
        navy.save();
        navy.undo();
        navy.addSpoon(1, 5, 6, 7, 8);
        navy.addSpoon(0, 9, 9, 0, 9);
        CHECK.due("restore", navy.restore(), 1);
        CHECK.due("fleet", navy.fleetOf(0), 0);
        CHECK.due("row of then", Games.row(navy, 2), ".a........");
        CHECK.due("row of now", Games.row(navy, 6), "..........");
        CHECK.dueThrow("the second spoon is gone", Check.INDEX, () -> navy.fleetOf(1));
        CHECK.due("accounts", navy.fleetCubesByAccount(0), 4);
        CHECK.due("isConsistent", navy.isConsistent(), true);
    }
}
