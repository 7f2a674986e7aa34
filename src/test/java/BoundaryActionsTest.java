import java.util.function.ObjIntConsumer;

/** Promises 11 to 15: each sentence that names a boundary has a test of its own. */
public final class BoundaryActionsTest {

    private static final Check CHECK = new Check();

    public static void main(String[] args) {
        stepsOfTurning();
        turnOfNoSpoon();
        turnOutOfRange();
        turnAtTheWrongTime();
        turnIsRefused();
        sailStopsAtTheEdge();
        sailStopsBeforeSpoons();
        secretSailingTakesOne();
        sailOfNoSpoon();
        sailOutOfRange();
        sailAtTheWrongTime();
        sailIsRefused();
        firingTakesOne();
        fireAnswers();
        fireOfNoSpoon();
        fireOutOfRange();
        fireAtTheWrongTime();
        fireIsRefused();
        loadFromTheOwnPot();
        loadAnswers();
        loadOfNoSpoon();
        loadOutOfRange();
        loadAtTheWrongTime();
        loadIsRefused();
        reasonKeptLast();
        noReason();
        CHECK.finish();
    }

    // ---- promise 11

    private static void stepsOfTurning() {
        CHECK.sentence("Promise 11", "Returns the number of steps between the bearings, the shorter way round.");
        int[] steps = {0, 1, 2, 3, 4, 3, 2, 1};
        for (int from = 0; from < 8; from++) {
            for (int to = 0; to < 8; to++) {
                SpoonNavy navy = Games.started(Games.spoon(0, 0, 0, from, 1), Games.spoon(1, 9, 9, 4, 3));
                CHECK.due("from " + from + " to " + to, navy.turnTo(0, to), steps[Math.floorMod(to - from, 8)]);
                CHECK.due("bearing", navy.bearingOf(0), to);
            }
        }
    }

    private static void turnOfNoSpoon() {
        CHECK.sentence("Promise 11", "Throws `IndexOutOfBoundsException` if there is no such spoon");
        CHECK.dueNoSuchSpoon((navy, spoon) -> navy.turnTo(spoon, 0));
    }

    private static void turnOutOfRange() {
        CHECK.sentence("Promise 11", "Throws `IllegalArgumentException` if the bearing is out of range");
        SpoonNavy navy = two();
        CHECK.dueThrowOutside("bearing", 0, 7, Check.ARGUMENT, bearing -> navy.turnTo(0, bearing));
        CHECK.due("highest", navy.turnTo(0, 7), 1);
        CHECK.due("lowest", navy.turnTo(0, 0), 1);
    }

    private static void turnAtTheWrongTime() {
        CHECK.sentence("Promise 11",
                "Throws `IllegalStateException` if the game is not going on, or the spoon is sunk or"
                + " not of the active fleet");
        dueAtTheWrongTime((navy, spoon) -> navy.turnTo(spoon, 2));
    }

    private static void turnIsRefused() {
        CHECK.sentence("Promise 11", "Throws `UnsupportedOperationException` if the action is refused; the reason is"
                + " kept");
        SpoonNavy navy = withoutActions();
        CHECK.dueRefusal("no actions", navy, 1, () -> navy.turnTo(0, 5));
        CHECK.due("bearing", navy.bearingOf(0), 2);
    }

    private static SpoonNavy two() {
        return Games.started(Games.spoon(0, 0, 0, 0, 3), Games.spoon(1, 9, 9, 4, 3));
    }

    private static SpoonNavy withoutActions() {
        SpoonNavy navy = two();
        Games.run(navy, "turn 0 1;turn 0 3;turn 0 2");
        return navy;
    }

    /** The call must take the spoons 0 and 1 in the turns of their fleets, and be right for both then. */
    private static void dueAtTheWrongTime(ObjIntConsumer<SpoonNavy> call) {
        SpoonNavy prepared = Games.prepared(Games.spoon(0, 2, 2, 0, 5), Games.spoon(1, 2, 8, 4, 5));
        CHECK.dueThrow("not started", Check.STATE, () -> call.accept(prepared, 0));
        CHECK.dueThrow("not started, fleet 1", Check.STATE, () -> call.accept(prepared, 1));
        prepared.start();
        CHECK.dueThrow("not of the active fleet", Check.STATE, () -> call.accept(prepared, 1));
        call.accept(prepared, 0);
        prepared.endTurn();
        CHECK.dueThrow("not of the active fleet 1", Check.STATE, () -> call.accept(prepared, 0));
        call.accept(prepared, 1);
        CHECK.due("changes", prepared.undo(), 5);
        SpoonNavy finished = Games.finished();
        CHECK.dueThrow("finished, the winner's", Check.STATE, () -> call.accept(finished, 0));
        CHECK.dueThrow("finished, the sunk one", Check.STATE, () -> call.accept(finished, 1));
        SpoonNavy lost = Games.lost();
        CHECK.dueThrow("finished, the loser's", Check.STATE, () -> call.accept(lost, 0));
        CHECK.dueThrow("finished, fleet 1's", Check.STATE, () -> call.accept(lost, 1));
        SpoonNavy sunk = Games.withSunkSpoon();
        CHECK.dueThrow("sunk, not of the active fleet", Check.STATE, () -> call.accept(sunk, 1));
        sunk.endTurn();
        CHECK.dueThrow("sunk, of the active fleet", Check.STATE, () -> call.accept(sunk, 1));
        CHECK.dueThrow("none of them keeps a reason", Check.NO_ELEMENT, () -> sunk.refusalReason());
    }

    // ---- promise 12

    private static void sailStopsAtTheEdge() {
        CHECK.sentence("Promise 12", "It stops early if the next cell is not on the tray");
        for (int free = 1; free <= 4; free++) {
            for (int cells = 1; cells <= 3; cells++) {
                dueSail("up to the edge", Games.spoon(0, 4, 9 - free, 0, 3), Games.spoon(1, 0, 0, 0, 3), cells, free);
                dueSail("aslant to the edge in x", Games.spoon(0, free, 8, 5, 3), Games.spoon(1, 0, 0, 0, 3), cells,
                        free);
                dueSail("aslant to the edge in y", Games.spoon(0, 1, free, 3, 3), Games.spoon(1, 0, 9, 0, 3), cells,
                        free);
            }
        }
    }

    private static void sailStopsBeforeSpoons() {
        CHECK.sentence("Promise 12", "or a spoon is in it.");
        for (int free = 1; free <= 4; free++) {
            for (int cells = 1; cells <= 3; cells++) {
                dueSail("up to a spoon", Games.spoon(0, 0, 4, 2, 3), Games.spoon(1, 1 + free, 4, 0, 3), cells, free);
                dueSail("aslant", Games.spoon(0, 8, 0, 7, 3), Games.spoon(1, 7 - free, 1 + free, 0, 3), cells, free);
            }
        }
        SpoonNavy navy = Games.started(Games.spoon(0, 0, 0, 0, 3), Games.spoon(0, 0, 2, 0, 3),
                Games.spoon(1, 9, 9, 0, 3));
        CHECK.due("before an own one", navy.sail(0, 3, false), 1);
        SpoonNavy sunk = Games.withSunkSpoon();
        CHECK.due("not before a sunk one", sunk.sail(0, 3, false), 3);
    }

    private static void dueSail(String what, int[] sailing, int[] other, int cells, int free) {
        SpoonNavy navy = Games.started(sailing, other);
        int due = Math.min(cells, free);
        String text = what + ", " + cells + " cells of " + free;
        CHECK.due(text, navy.sail(0, cells, false), due);
        CHECK.due(text + ", x", navy.xOf(0), sailing[1] + due * Games.stepX(sailing[3]));
        CHECK.due(text + ", y", navy.yOf(0), sailing[2] + due * Games.stepY(sailing[3]));
        CHECK.due(text + ", in all", navy.cellsSailed(), due);
    }

    private static void secretSailingTakesOne() {
        CHECK.sentence("Promise 12", "true to sail secretly, which takes 1 cube from the spoon");
        SpoonNavy navy = two();
        navy.sail(0, 3, true);
        CHECK.due("3 cells take one", navy.cubesOf(0), 2);
        navy.sail(0, 1, true);
        CHECK.due("1 cell takes one", navy.cubesOf(0), 1);
        navy.sail(0, 1, true);
        CHECK.due("the last one", navy.cubesOf(0), 0);
        navy.endTurn();
        navy.endTurn();
        CHECK.due("openly with no cubes", navy.sail(0, 3, false), 3);
        CHECK.due("takes none", navy.cubesOf(0), 0);
        CHECK.due("secret ones", navy.secretCount(), 3);
        CHECK.due("pot", navy.potOf(0), 20);
    }

    private static void sailOfNoSpoon() {
        CHECK.sentence("Promise 12", "Throws `IndexOutOfBoundsException` if there is no such spoon");
        CHECK.dueNoSuchSpoon((navy, spoon) -> navy.sail(spoon, 1, false));
    }

    private static void sailOutOfRange() {
        CHECK.sentence("Promise 12", "Throws `IllegalArgumentException` if the number of cells is not from 1 to 3");
        SpoonNavy navy = two();
        CHECK.dueThrowOutside("cells", 1, 3, Check.ARGUMENT, cells -> navy.sail(0, cells, false));
        CHECK.dueThrowOutside("cells, secretly", 1, 3, Check.ARGUMENT, cells -> navy.sail(0, cells, true));
        CHECK.due("lowest", navy.sail(0, 1, false), 1);
        CHECK.due("highest", navy.sail(0, 3, false), 3);
    }

    private static void sailAtTheWrongTime() {
        CHECK.sentence("Promise 12",
                "Throws `IllegalStateException` if the game is not going on, or the spoon is sunk or"
                + " not of the active fleet");
        dueAtTheWrongTime((navy, spoon) -> navy.sail(spoon, 1, false));
        dueAtTheWrongTime((navy, spoon) -> navy.sail(spoon, 1, true));
    }

    private static void sailIsRefused() {
        CHECK.sentence("Promise 12", "Throws `UnsupportedOperationException` if the action is refused; the reason is"
                + " kept");
        SpoonNavy still = withoutActions();
        CHECK.dueRefusal("no actions", still, 1, () -> still.sail(0, 1, false));
        SpoonNavy navy = Games.started(Games.spoon(0, 0, 9, 2, 1), Games.spoon(1, 9, 9, 4, 3));
        navy.sail(0, 3, true);
        CHECK.dueRefusal("no cubes", navy, 2, () -> navy.sail(0, 1, true));
        navy.turnTo(0, 1);
        CHECK.dueRefusal("edge", navy, 3, () -> navy.sail(0, 3, false));
        CHECK.due("x", navy.xOf(0), 3);
        CHECK.due("cells", navy.cellsSailed(), 3);
    }

    // ---- promise 13

    private static void firingTakesOne() {
        CHECK.sentence("Promise 13", "Lets a spoon fire at a cell, which takes 1 cube from it.");
        SpoonNavy navy = two();
        navy.fire(0, 0, 3);
        CHECK.due("far off", navy.cubesOf(0), 2);
        navy.fire(0, 0, 1);
        CHECK.due("near", navy.cubesOf(0), 1);
        navy.fire(0, 0, 1);
        CHECK.due("the last one", navy.cubesOf(0), 0);
        CHECK.due("pot", navy.potOf(0), 20);
        SpoonNavy hit = Games.withSunkSpoon();
        CHECK.due("hits take one each", hit.cubesOf(0), 3);
        CHECK.due("and none from the pot", hit.potOf(0), 20);
    }

    private static void fireAnswers() {
        CHECK.sentence("Promise 13", "Returns 0 if no spoon is in the cell, 1 if the spoon in it is hit, 2 if it is"
                + " sunk.");
        SpoonNavy navy = Games.started(Games.spoon(0, 2, 2, 0, 9), Games.spoon(1, 2, 4, 4, 3),
                Games.spoon(1, 9, 9, 4, 6));
        CHECK.due("no spoon", navy.fire(0, 2, 3), 0);
        CHECK.due("hit", navy.fire(0, 2, 4), 1);
        CHECK.due("sunk", navy.fire(0, 2, 4), 2);
        Games.run(navy, "end;end");
        CHECK.due("no spoon is there any more", navy.fire(0, 2, 4), 0);
        SpoonNavy hidden = Games.started(Games.spoon(0, 2, 0, 0, 9), Games.spoon(1, 2, 9, 4, 3));
        Games.run(hidden, "end;sneak 1 2;end");
        CHECK.due("where a hidden one is known", hidden.fire(0, 2, 9), 0);
        CHECK.due("where it is", hidden.fire(0, 2, 7), 1);
        CHECK.due("the last of its fleet", hidden.fire(0, 2, 7), 2);
    }

    private static void fireOfNoSpoon() {
        CHECK.sentence("Promise 13", "Throws `IndexOutOfBoundsException` if there is no such spoon");
        CHECK.dueNoSuchSpoon((navy, spoon) -> navy.fire(spoon, 0, 0));
    }

    private static void fireOutOfRange() {
        CHECK.sentence("Promise 13", "Throws `IllegalArgumentException` if a coordinate is out of range");
        SpoonNavy navy = Games.started(Games.spoon(0, 9, 0, 7, 9), Games.spoon(1, 5, 5, 4, 3));
        CHECK.dueThrowOutside("x", 0, 9, Check.ARGUMENT, x -> navy.fire(0, x, 5));
        CHECK.dueThrowOutside("y", 0, 9, Check.ARGUMENT, y -> navy.fire(0, 5, y));
        CHECK.due("lowest x, highest y", navy.fire(0, 0, 9), 0);
        CHECK.due("highest x", navy.fire(0, 9, 1), 0);
        CHECK.due("lowest y", navy.fire(0, 8, 0), 0);
    }

    private static void fireAtTheWrongTime() {
        CHECK.sentence("Promise 13",
                "Throws `IllegalStateException` if the game is not going on, or the spoon is sunk or"
                + " not of the active fleet");
        dueAtTheWrongTime((navy, spoon) -> navy.fire(spoon, 2, spoon == 0 ? 3 : 7));
    }

    private static void fireIsRefused() {
        CHECK.sentence("Promise 13", "Throws `UnsupportedOperationException` if the action is refused; the reason is"
                + " kept");
        SpoonNavy still = withoutActions();
        CHECK.dueRefusal("no actions", still, 1, () -> still.fire(0, 1, 0));
        SpoonNavy navy = two();
        CHECK.dueRefusal("own cell", navy, 4, () -> navy.fire(0, 0, 0));
        CHECK.dueRefusal("too far", navy, 4, () -> navy.fire(0, 0, 4));
        CHECK.dueRefusal("direction 2", navy, 5, () -> navy.fire(0, 3, 0));
        CHECK.due("no shots", navy.shotCount(), 0);
        CHECK.due("cubes", navy.cubesOf(0), 3);
        Games.run(navy, "fire 0 01;fire 0 01;fire 0 01;end;end");
        CHECK.dueRefusal("no cubes", navy, 2, () -> navy.fire(0, 0, 1));
        CHECK.due("shots", navy.shotCount(), 3);
    }

    // ---- promise 14

    private static void loadFromTheOwnPot() {
        CHECK.sentence("Promise 14", "Loads cubes from the pot of the active fleet onto a spoon.");
        SpoonNavy navy = Games.started(Games.spoon(1, 0, 0, 0, 3), Games.spoon(0, 9, 9, 4, 3));
        navy.load(1, 6);
        CHECK.due("fleet 0", navy.potOf(0), 14);
        CHECK.due("fleet 1", navy.potOf(1), 20);
        navy.endTurn();
        navy.load(0, 1);
        CHECK.due("fleet 0", navy.potOf(0), 14);
        CHECK.due("fleet 1", navy.potOf(1), 19);
    }

    private static void loadAnswers() {
        CHECK.sentence("Promise 14", "Returns the number of cubes on the spoon after the call.");
        SpoonNavy navy = Games.started(Games.spoon(0, 0, 0, 0, 1), Games.spoon(1, 9, 9, 4, 3));
        CHECK.due("1 and 1", navy.load(0, 1), 2);
        CHECK.due("2 and 7", navy.load(0, 7), 9);
        CHECK.due("cubesOf", navy.cubesOf(0), 9);
    }

    private static void loadOfNoSpoon() {
        CHECK.sentence("Promise 14", "Throws `IndexOutOfBoundsException` if there is no such spoon");
        CHECK.dueNoSuchSpoon((navy, spoon) -> navy.load(spoon, 1));
    }

    private static void loadOutOfRange() {
        CHECK.sentence("Promise 14", "Throws `IllegalArgumentException` if the number of cubes is not from 1 to 9");
        SpoonNavy navy = Games.started(Games.spoon(0, 0, 0, 0, 1), Games.spoon(1, 9, 9, 4, 3));
        CHECK.dueThrowOutside("cubes", 1, 9, Check.ARGUMENT, cubes -> navy.load(0, cubes));
        CHECK.dueThrow("no reason is kept", Check.NO_ELEMENT, () -> navy.refusalReason());
        CHECK.dueRefusal("9 are no wrong number", navy, 6, () -> navy.load(0, 9));
        navy.fire(0, 0, 1);
        CHECK.due("highest", navy.load(0, 9), 9);
        SpoonNavy lowest = two();
        CHECK.due("lowest", lowest.load(0, 1), 4);
    }

    private static void loadAtTheWrongTime() {
        CHECK.sentence("Promise 14",
                "Throws `IllegalStateException` if the game is not going on, or the spoon is sunk or"
                + " not of the active fleet");
        dueAtTheWrongTime((navy, spoon) -> navy.load(spoon, 1));
    }

    private static void loadIsRefused() {
        CHECK.sentence("Promise 14", "Throws `UnsupportedOperationException` if the action is refused; the reason is"
                + " kept");
        SpoonNavy still = withoutActions();
        CHECK.dueRefusal("no actions", still, 1, () -> still.load(0, 1));
        SpoonNavy navy = two();
        CHECK.dueRefusal("10 on the spoon", navy, 6, () -> navy.load(0, 7));
        CHECK.due("cubes", navy.cubesOf(0), 3);
        CHECK.due("pot", navy.potOf(0), 20);
        CHECK.due("9 on the spoon", navy.load(0, 6), 9);
    }

    // ---- promise 15

    private static void reasonKeptLast() {
        CHECK.sentence("Promise 15", "Returns the reason that was kept last.");
        SpoonNavy navy = Games.started(Games.spoon(0, 0, 9, 0, 1), Games.spoon(1, 9, 9, 4, 3));
        CHECK.dueRefusal("highest", navy, 6, () -> navy.load(0, 9));
        CHECK.dueRefusal("out of reach", navy, 5, () -> navy.fire(0, 0, 8));
        CHECK.dueRefusal("distance", navy, 4, () -> navy.fire(0, 0, 7));
        CHECK.dueRefusal("edge", navy, 3, () -> navy.sail(0, 1, false));
        Games.run(navy, "turn 0 2;sneak 0 1");
        CHECK.due("a success keeps none", navy.refusalReason(), 3);
        CHECK.dueRefusal("no cubes", navy, 2, () -> navy.sail(0, 1, true));
        navy.turnTo(0, 3);
        CHECK.dueRefusal("lowest", navy, 1, () -> navy.turnTo(0, 4));
        CHECK.dueThrow("other fleet", Check.STATE, () -> navy.turnTo(1, 4));
        CHECK.due("other exceptions keep none", navy.refusalReason(), 1);
    }

    private static void noReason() {
        CHECK.sentence("Promise 15", "Throws `NoSuchElementException` if no action was refused");
        SpoonNavy navy = two();
        CHECK.dueThrow("none", Check.NO_ELEMENT, () -> navy.refusalReason());
        navy.turnTo(0, 1);
        CHECK.dueThrow("no such spoon", Check.INDEX, () -> navy.turnTo(2, 1));
        CHECK.dueThrow("still none", Check.NO_ELEMENT, () -> navy.refusalReason());
        SpoonNavy prepared = Games.prepared(Games.spoon(0, 0, 0, 0, 1));
        CHECK.dueThrow("taken cell", Check.UNSUPPORTED, () -> prepared.addSpoon(1, 0, 0, 0, 1));
        CHECK.dueThrow("that is no action", Check.NO_ELEMENT, () -> prepared.refusalReason());
        Games.type(prepared, "spoon 1 00 01");
        CHECK.dueThrow("taken cell in a text", Check.STATE, () -> prepared.run());
        CHECK.dueThrow("that is no action", Check.NO_ELEMENT, () -> prepared.refusalReason());
    }
}
