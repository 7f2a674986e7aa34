import java.util.function.Consumer;

/** Promises 1 to 15: each sentence that names a boundary has a test of its own. */
public final class BoundaryTurnsTest {

    private static final Check CHECK = new Check();

    public static void main(String[] args) {
        newObject();
        addedSpoon();
        addedCubes();
        addSpoonToNoFleet();
        addSpoonOutOfRange();
        addSpoonAfterTheStart();
        addSeventhSpoon();
        addSpoonOnAnother();
        startsWithFleet0();
        startCounts();
        startAgain();
        startWithoutSpoons();
        endTurnGoesRound();
        endTurnAnswers();
        endTurnInNoGame();
        isStartedAlways();
        isFinishedAtLast();
        winnerFloats();
        winnerOfNoFinishedGame();
        activeFleetInNoGame();
        actionsLeftInNoGame();
        turnsThatHaveEnded();
        CHECK.finish();
    }

    // ---- promise 1

    private static void newObject() {
        CHECK.sentence("Promise 1", "Creates a tray without spoons; the game has not been started.");
        SpoonNavy navy = new SpoonNavy();
        CHECK.due("spoonCount", navy.spoonCount(), 0);
        CHECK.due("isStarted", navy.isStarted(), false);
        CHECK.due("isFinished", navy.isFinished(), false);
        CHECK.due("totals", navy.shotCount() + navy.hitCount() + navy.cellsSailed() + navy.secretCount(), 0);
        CHECK.due("turnCount", navy.turnCount(), 0);
        for (int y = 0; y < 10; y++) {
            CHECK.due("row", Games.row(navy, y), "..........");
        }
        CHECK.dueThrow("spoon 0", Check.INDEX, () -> navy.xOf(0));
        CHECK.dueThrow("rank 0", Check.NO_ELEMENT, () -> navy.spoonAtRank(0));
        SpoonNavy fresh = new SpoonNavy();
        CHECK.dueThrow("reason", Check.NO_ELEMENT, () -> fresh.refusalReason());
        CHECK.dueThrow("error position", Check.NO_ELEMENT, () -> fresh.errorPosition());
        CHECK.dueThrow("failed command", Check.NO_ELEMENT, () -> fresh.failedCommand());
        CHECK.dueThrow("line", Check.INDEX, () -> fresh.lineAt(0));
        CHECK.dueThrow("undo", Check.STATE, () -> fresh.undo());
        CHECK.dueThrow("restore", Check.STATE, () -> fresh.restore());
        CHECK.due("the text is empty", fresh.append('e'), 1);
    }

    // ---- promise 2

    private static void addedSpoon() {
        CHECK.sentence("Promise 2", "Adds a spoon with a hull of 2, which the other fleet knows in its cell.");
        SpoonNavy navy = Games.prepared(Games.spoon(0, 0, 9, 7, 1), Games.spoon(1, 1, 9, 0, 9));
        CHECK.due("hull", navy.hullOf(1), 2);
        CHECK.due("known x", navy.knownX(1), 1);
        CHECK.due("known y", navy.knownY(1), 9);
        CHECK.due("hidden", navy.isHidden(1), false);
        CHECK.due("the first one's x", navy.knownX(0), 0);
    }

    private static void addedCubes() {
        CHECK.sentence("Promise 2", "Its cubes are not taken from the pot.");
        SpoonNavy navy = new SpoonNavy();
        for (int x = 0; x < 6; x++) {
            CHECK.due("more cubes than in the pot", navy.addSpoon(0, x, 0, 0, 9), x);
        }
        CHECK.due("pot", navy.potOf(0), 20);
        CHECK.due("cubes", navy.fleetCubes(0), 54);
        CHECK.due("the other pot", navy.potOf(1), 20);
    }

    private static void addSpoonToNoFleet() {
        CHECK.sentence("Promise 2", "Throws `IndexOutOfBoundsException` if there is no such fleet");
        CHECK.dueNoSuchFleet((navy, fleet) -> navy.addSpoon(fleet, 0, 0, 0, 1));
        SpoonNavy navy = new SpoonNavy();
        CHECK.due("fleet 1", navy.addSpoon(1, 0, 0, 0, 1), 0);
        CHECK.due("fleet 0", navy.addSpoon(0, 1, 0, 0, 1), 1);
    }

    private static void addSpoonOutOfRange() {
        CHECK.sentence("Promise 2",
                "Throws `IllegalArgumentException` if a coordinate, the bearing or the number of cubes"
                + " is out of range");
        SpoonNavy navy = new SpoonNavy();
        CHECK.dueThrowOutside("x", 0, 9, Check.ARGUMENT, x -> navy.addSpoon(0, x, 0, 0, 1));
        CHECK.dueThrowOutside("y", 0, 9, Check.ARGUMENT, y -> navy.addSpoon(0, 0, y, 0, 1));
        CHECK.dueThrowOutside("bearing", 0, 7, Check.ARGUMENT, bearing -> navy.addSpoon(0, 0, 0, bearing, 1));
        CHECK.dueThrowOutside("cubes", 1, 9, Check.ARGUMENT, cubes -> navy.addSpoon(0, 0, 0, 0, cubes));
        CHECK.due("all the lowest", navy.addSpoon(0, 0, 0, 0, 1), 0);
        CHECK.due("all the highest", navy.addSpoon(1, 9, 9, 7, 9), 1);
        CHECK.due("cubes", navy.cubesOf(0), 1);
        CHECK.due("bearing", navy.bearingOf(1), 7);
    }

    private static void addSpoonAfterTheStart() {
        CHECK.sentence("Promise 2", "Throws `IllegalStateException` if the game has been started");
        SpoonNavy started = Games.withSunkSpoon();
        CHECK.dueThrow("going on", Check.STATE, () -> started.addSpoon(0, 5, 5, 0, 1));
        CHECK.dueThrow("going on, a sunk one's cell", Check.STATE, () -> started.addSpoon(1, 2, 4, 0, 1));
        SpoonNavy finished = Games.finished();
        CHECK.dueThrow("finished", Check.STATE, () -> finished.addSpoon(1, 5, 5, 0, 1));
        SpoonNavy undone = Games.started(Games.spoon(0, 0, 0, 0, 1), Games.spoon(1, 9, 9, 0, 1));
        undone.undo();
        CHECK.due("the start is undone", undone.addSpoon(0, 5, 5, 0, 1), 2);
    }

    private static void addSeventhSpoon() {
        CHECK.sentence("Promise 2", "or the fleet has 6 spoons");
        SpoonNavy navy = Games.twelve();
        CHECK.dueThrow("fleet 0", Check.STATE, () -> navy.addSpoon(0, 9, 9, 0, 1));
        CHECK.dueThrow("fleet 1", Check.STATE, () -> navy.addSpoon(1, 9, 9, 0, 1));
        CHECK.due("spoons", navy.spoonCount(), 12);
        navy.undo();
        CHECK.dueThrow("fleet 0 still has 6", Check.STATE, () -> navy.addSpoon(0, 9, 9, 0, 1));
        CHECK.due("fleet 1 has 5", navy.addSpoon(1, 9, 9, 0, 1), 11);
    }

    private static void addSpoonOnAnother() {
        CHECK.sentence("Promise 2", "Throws `UnsupportedOperationException` if a spoon is in the cell");
        SpoonNavy navy = Games.prepared(Games.spoon(0, 0, 0, 0, 1), Games.spoon(1, 9, 9, 4, 1));
        CHECK.dueThrow("own fleet", Check.UNSUPPORTED, () -> navy.addSpoon(0, 0, 0, 0, 1));
        CHECK.dueThrow("other fleet", Check.UNSUPPORTED, () -> navy.addSpoon(0, 9, 9, 0, 1));
        CHECK.dueThrow("no reason is kept", Check.NO_ELEMENT, () -> navy.refusalReason());
        CHECK.due("y alone is the same", navy.addSpoon(0, 1, 0, 0, 1), 2);
        CHECK.due("x alone is the same", navy.addSpoon(0, 0, 1, 0, 1), 3);
        navy.undo();
        CHECK.due("taken back", navy.addSpoon(1, 0, 1, 0, 1), 3);
    }

    // ---- promise 3

    private static void startsWithFleet0() {
        CHECK.sentence("Promise 3", "Starts the game. Fleet 0 is the active one and has 3 actions.");
        SpoonNavy navy = Games.prepared(Games.spoon(1, 0, 0, 0, 1), Games.spoon(0, 9, 9, 4, 1));
        navy.start();
        CHECK.due("active, though the first spoon is fleet 1's", navy.activeFleet(), 0);
        CHECK.due("actions", navy.actionsLeft(), 3);
        Games.run(navy, "turn 1 0;end");
        navy.undo();
        navy.undo();
        navy.start();
        CHECK.due("active after a second start", navy.activeFleet(), 0);
        CHECK.due("actions after a second start", navy.actionsLeft(), 3);
    }

    private static void startCounts() {
        CHECK.sentence("Promise 3", "Returns the number of spoons.");
        CHECK.due("two", Games.prepared(Games.spoon(0, 0, 0, 0, 1), Games.spoon(1, 9, 9, 4, 1)).start(), 2);
        CHECK.due("twelve", Games.twelve().start(), 12);
    }

    private static void startAgain() {
        CHECK.sentence("Promise 3", "Throws `IllegalStateException` if the game has been started");
        SpoonNavy navy = Games.started(Games.spoon(0, 0, 0, 0, 1), Games.spoon(1, 9, 9, 4, 1));
        navy.turnTo(0, 0);
        CHECK.dueThrow("going on", Check.STATE, () -> navy.start());
        CHECK.due("actions", navy.actionsLeft(), 2);
        SpoonNavy finished = Games.finished();
        CHECK.dueThrow("finished", Check.STATE, () -> finished.start());
    }

    private static void startWithoutSpoons() {
        CHECK.sentence("Promise 3", "or a fleet has no spoons");
        SpoonNavy none = new SpoonNavy();
        CHECK.dueThrow("neither has some", Check.STATE, () -> none.start());
        SpoonNavy first = Games.prepared(Games.spoon(0, 0, 0, 0, 1), Games.spoon(0, 1, 0, 0, 1));
        CHECK.dueThrow("fleet 1 has none", Check.STATE, () -> first.start());
        SpoonNavy second = Games.prepared(Games.spoon(1, 0, 0, 0, 1), Games.spoon(1, 1, 0, 0, 1));
        CHECK.dueThrow("fleet 0 has none", Check.STATE, () -> second.start());
        CHECK.due("not started", second.isStarted(), false);
        second.addSpoon(0, 9, 9, 0, 1);
        second.undo();
        CHECK.dueThrow("its one is taken back", Check.STATE, () -> second.start());
    }

    // ---- promise 4

    private static void endTurnGoesRound() {
        CHECK.sentence("Promise 4", "Ends the turn. The other fleet is the active one then and has 3 actions.");
        SpoonNavy navy = Games.started(Games.spoon(0, 0, 0, 0, 1), Games.spoon(1, 9, 9, 4, 1));
        for (int turn = 1; turn <= 5; turn++) {
            int used = turn % 4;
            for (int action = 0; action < used; action++) {
                navy.turnTo(navy.activeFleet(), action);
            }
            navy.endTurn();
            CHECK.due("active after turn " + turn, navy.activeFleet(), turn % 2);
            CHECK.due("actions after " + used + " used ones", navy.actionsLeft(), 3);
        }
    }

    private static void endTurnAnswers() {
        CHECK.sentence("Promise 4", "Returns the active fleet after the call.");
        SpoonNavy navy = Games.started(Games.spoon(0, 0, 0, 0, 1), Games.spoon(1, 9, 9, 4, 1));
        CHECK.due("first", navy.endTurn(), 1);
        CHECK.due("second", navy.endTurn(), 0);
        CHECK.due("third", navy.endTurn(), 1);
    }

    private static void endTurnInNoGame() {
        CHECK.sentence("Promise 4", "Throws `IllegalStateException` if the game is not going on");
        dueInNoGame(navy -> navy.endTurn());
    }

    private static void dueInNoGame(Consumer<SpoonNavy> call) {
        SpoonNavy none = new SpoonNavy();
        CHECK.dueThrow("no spoons", Check.STATE, () -> call.accept(none));
        SpoonNavy prepared = Games.prepared(Games.spoon(0, 0, 0, 0, 1), Games.spoon(1, 9, 9, 4, 1));
        CHECK.dueThrow("not started", Check.STATE, () -> call.accept(prepared));
        SpoonNavy finished = Games.finished();
        CHECK.dueThrow("finished", Check.STATE, () -> call.accept(finished));
        SpoonNavy lost = Games.lost();
        CHECK.dueThrow("finished in the turn of fleet 1", Check.STATE, () -> call.accept(lost));
        lost.undo();
        call.accept(lost);
    }

    // ---- promises 5 to 10

    private static void isStartedAlways() {
        CHECK.sentence("Promise 5", "Returns whether it has, also if it is finished.");
        SpoonNavy navy = Games.prepared(Games.spoon(0, 0, 0, 0, 1), Games.spoon(1, 9, 9, 4, 1));
        CHECK.due("before", navy.isStarted(), false);
        navy.start();
        CHECK.due("after", navy.isStarted(), true);
        CHECK.due("finished", Games.finished().isStarted(), true);
        CHECK.due("finished by fleet 1", Games.lost().isStarted(), true);
    }

    private static void isFinishedAtLast() {
        CHECK.sentence("Promise 6", "Returns whether the game is finished.");
        CHECK.due("new", new SpoonNavy().isFinished(), false);
        CHECK.due("fleet 1 has no spoons", Games.prepared(Games.spoon(0, 0, 0, 0, 1)).isFinished(), false);
        CHECK.due("one of two is sunk", Games.withSunkSpoon().isFinished(), false);
        CHECK.due("fleet 1 is sunk", Games.finished().isFinished(), true);
        SpoonNavy lost = Games.lost();
        CHECK.due("fleet 0 is sunk", lost.isFinished(), true);
        lost.undo();
        CHECK.due("hull 1 of the last one", lost.isFinished(), false);
    }

    private static void winnerFloats() {
        CHECK.sentence("Promise 7", "Returns the fleet with spoons that are not sunk.");
        CHECK.due("fleet 0", Games.finished().winner(), 0);
        CHECK.due("fleet 1", Games.lost().winner(), 1);
    }

    private static void winnerOfNoFinishedGame() {
        CHECK.sentence("Promise 7", "Throws `IllegalStateException` if the game is not finished");
        SpoonNavy fresh = new SpoonNavy();
        CHECK.dueThrow("new", Check.STATE, () -> fresh.winner());
        SpoonNavy one = Games.prepared(Games.spoon(1, 0, 0, 0, 1));
        CHECK.dueThrow("fleet 0 has no spoons", Check.STATE, () -> one.winner());
        SpoonNavy goingOn = Games.withSunkSpoon();
        CHECK.dueThrow("going on", Check.STATE, () -> goingOn.winner());
        SpoonNavy undone = Games.finished();
        undone.undo();
        CHECK.dueThrow("the last shot is undone", Check.STATE, () -> undone.winner());
    }

    private static void activeFleetInNoGame() {
        CHECK.sentence("Promise 8", "Throws `IllegalStateException` if the game is not going on");
        dueInNoGame(navy -> navy.activeFleet());
    }

    private static void actionsLeftInNoGame() {
        CHECK.sentence("Promise 9", "Throws `IllegalStateException` if the game is not going on");
        dueInNoGame(navy -> navy.actionsLeft());
        SpoonNavy navy = Games.started(Games.spoon(0, 0, 0, 0, 1), Games.spoon(1, 9, 9, 4, 1));
        CHECK.due("all", navy.actionsLeft(), 3);
        Games.run(navy, "turn 0 1;turn 0 2;turn 0 3");
        CHECK.due("none", navy.actionsLeft(), 0);
    }

    private static void turnsThatHaveEnded() {
        CHECK.sentence("Promise 10", "Returns the number of turns that have ended.");
        SpoonNavy navy = new SpoonNavy();
        CHECK.due("new", navy.turnCount(), 0);
        Games.run(navy, "spoon 0 00 01;spoon 1 99 01;start");
        CHECK.due("in the first", navy.turnCount(), 0);
        CHECK.dueThrow("wrong call", Check.STATE, () -> navy.start());
        navy.endTurn();
        CHECK.due("in the second", navy.turnCount(), 1);
        navy.undo();
        CHECK.due("undone", navy.turnCount(), 0);
        CHECK.due("the turn that finishes the game does not end", Games.lost().turnCount(), 1);
    }
}
