/** Promises 30 to 42: each sentence that names a boundary has a test of its own. */
public final class BoundaryRangesTest {

    private static final Check CHECK = new Check();
    private static final String NO_SPOON = "Throws `IndexOutOfBoundsException` if there is no such spoon";
    private static final String NO_FLEET = "Throws `IndexOutOfBoundsException` if there is no such fleet";
    private static final String OUT_OF_RANGE = "Throws `IllegalArgumentException` if a coordinate is out of range";

    public static void main(String[] args) {
        distanceToItself();
        distanceOfNoSpoon();
        distanceOfTheSunk();
        directionOfNoSpoon();
        directionOutOfRange();
        directionOfTheSunk();
        directionToTheOwnCell();
        reachOfTheSunk();
        reachOfNoSpoon();
        reachOutOfRange();
        targetsInReach();
        targetsOfTheOtherFleet();
        targetsThatAreSunk();
        targetsOfTheSunk();
        targetsOfNoSpoon();
        aheadToTheEdge();
        aheadToASpoon();
        aheadOfNoSpoon();
        aheadOfTheSunk();
        pots();
        noSuchFleet();
        cubesOfTheFleets();
        cubesByAccount();
        shots();
        hits();
        cells();
        secrets();
        CHECK.finish();
    }

    // ---- promise 30

    private static void distanceToItself() {
        CHECK.sentence("Promise 30", "`other`: the other spoon, possibly the same");
        SpoonNavy navy = Games.prepared(Games.spoon(0, 0, 0, 0, 1), Games.spoon(1, 9, 9, 0, 1),
                Games.spoon(0, 0, 1, 0, 1));
        CHECK.due("the same", navy.distance(1, 1), 0);
        CHECK.due("beside it", navy.distance(0, 2), 1);
        CHECK.due("the farthest", navy.distance(0, 1), 9);
    }

    private static void distanceOfNoSpoon() {
        CHECK.sentence("Promise 30", "Throws `IndexOutOfBoundsException` if there is no such spoon, for either");
        CHECK.dueNoSuchSpoon((navy, spoon) -> navy.distance(spoon, 0));
        CHECK.dueNoSuchSpoon((navy, spoon) -> navy.distance(0, spoon));
        CHECK.dueNoSuchSpoon((navy, spoon) -> navy.distance(spoon, spoon));
        CHECK.dueNoSuchSpoon((navy, spoon) -> navy.distance(1, spoon));
    }

    private static void distanceOfTheSunk() {
        CHECK.sentence("Promise 30", "Throws `NoSuchElementException` if one of them is sunk");
        SpoonNavy navy = Games.withSunkSpoon();
        CHECK.dueThrow("the first", Check.NO_ELEMENT, () -> navy.distance(1, 0));
        CHECK.dueThrow("the second", Check.NO_ELEMENT, () -> navy.distance(0, 1));
        CHECK.dueThrow("the same", Check.NO_ELEMENT, () -> navy.distance(1, 1));
        CHECK.due("neither", navy.distance(0, 2), 7);
        navy.undo();
        CHECK.due("hit once", navy.distance(0, 1), 2);
    }

    // ---- promise 31

    private static void directionOfNoSpoon() {
        CHECK.sentence("Promise 31", NO_SPOON);
        CHECK.dueNoSuchSpoon((navy, spoon) -> navy.directionTo(spoon, 0, 0));
    }

    private static void directionOutOfRange() {
        CHECK.sentence("Promise 31", OUT_OF_RANGE);
        SpoonNavy navy = Games.prepared(Games.spoon(0, 5, 5, 0, 1));
        CHECK.dueThrowOutside("x", 0, 9, Check.ARGUMENT, x -> navy.directionTo(0, x, 5));
        CHECK.dueThrowOutside("y", 0, 9, Check.ARGUMENT, y -> navy.directionTo(0, 5, y));
        CHECK.due("highest x", navy.directionTo(0, 9, 5), 2);
        CHECK.due("lowest x", navy.directionTo(0, 0, 5), 6);
        CHECK.due("highest y", navy.directionTo(0, 5, 9), 0);
        CHECK.due("lowest y", navy.directionTo(0, 5, 0), 4);
    }

    private static void directionOfTheSunk() {
        CHECK.sentence("Promise 31", "Throws `NoSuchElementException` if the spoon is sunk");
        SpoonNavy navy = Games.withSunkSpoon();
        CHECK.dueThrow("sunk", Check.NO_ELEMENT, () -> navy.directionTo(1, 9, 9));
        CHECK.dueThrow("sunk, in its cell", Check.NO_ELEMENT, () -> navy.directionTo(1, 2, 4));
        CHECK.due("to a sunk one's cell", navy.directionTo(0, 2, 4), 0);
        navy.undo();
        CHECK.due("hit once", navy.directionTo(1, 2, 2), 4);
    }

    private static void directionToTheOwnCell() {
        CHECK.sentence("Promise 31", "or in the cell");
        SpoonNavy navy = Games.prepared(Games.spoon(0, 0, 9, 0, 1), Games.spoon(1, 1, 9, 0, 1));
        CHECK.dueThrow("own cell", Check.NO_ELEMENT, () -> navy.directionTo(0, 0, 9));
        CHECK.due("another spoon's", navy.directionTo(0, 1, 9), 2);
        CHECK.due("an empty one", navy.directionTo(0, 0, 8), 4);
    }

    // ---- promise 32

    private static void reachOfTheSunk() {
        CHECK.sentence("Promise 32", "Returns whether it is in its reach, false for a sunk spoon.");
        SpoonNavy navy = Games.withSunkSpoon();
        CHECK.due("sunk", navy.isInReach(1, 2, 3), false);
        CHECK.due("sunk, own cell", navy.isInReach(1, 2, 4), false);
        CHECK.due("own cell", navy.isInReach(0, 2, 2), false);
        CHECK.due("3 cells with 3 cubes", navy.isInReach(0, 2, 5), true);
        CHECK.due("4 cells with 3 cubes", navy.isInReach(0, 2, 6), false);
        navy.undo();
        CHECK.due("hit once", navy.isInReach(1, 2, 3), true);
    }

    private static void reachOfNoSpoon() {
        CHECK.sentence("Promise 32", NO_SPOON);
        CHECK.dueNoSuchSpoon((navy, spoon) -> navy.isInReach(spoon, 0, 0));
    }

    private static void reachOutOfRange() {
        CHECK.sentence("Promise 32", OUT_OF_RANGE);
        SpoonNavy navy = Games.withSunkSpoon();
        for (int spoon = 0; spoon < 3; spoon++) {
            int asked = spoon;
            CHECK.dueThrowOutside("x, spoon " + spoon, 0, 9, Check.ARGUMENT, x -> navy.isInReach(asked, x, 9));
            CHECK.dueThrowOutside("y, spoon " + spoon, 0, 9, Check.ARGUMENT, y -> navy.isInReach(asked, 9, y));
        }
    }

    // ---- promises 33 and 34

    private static void dueTargets(String what, int count, SpoonNavy navy) {
        CHECK.sentence("Promise 33",
                "Returns the number of spoons of the other fleet in the reach of a spoon, found spoon"
                + " by spoon.");
        CHECK.due(what, navy.targetCount(0), count);
        CHECK.sentence("Promise 34", "Returns the same number as targetCount(), found cell by cell.");
        CHECK.due(what, navy.targetCountByCells(0), count);
    }

    private static void targetsInReach() {
        dueTargets("no spoons", 0, Games.prepared(Games.spoon(0, 4, 4, 0, 9)));
        dueTargets("the farthest", 1, Games.prepared(Games.spoon(0, 4, 0, 0, 9), Games.spoon(1, 4, 9, 0, 1)));
        dueTargets("one too far", 0, Games.prepared(Games.spoon(0, 4, 0, 0, 8), Games.spoon(1, 4, 9, 0, 1)));
        dueTargets("two steps aside", 0, Games.prepared(Games.spoon(0, 4, 4, 0, 8), Games.spoon(1, 8, 4, 0, 1)));
        dueTargets("corners", 2, Games.prepared(Games.spoon(0, 4, 0, 0, 9), Games.spoon(1, 0, 9, 0, 1),
                Games.spoon(1, 9, 9, 0, 1)));
        dueTargets("the lowest cells", 3, Games.prepared(Games.spoon(0, 4, 4, 5, 9), Games.spoon(1, 0, 0, 0, 1),
                Games.spoon(1, 4, 0, 0, 1), Games.spoon(1, 0, 4, 0, 1)));
        dueTargets("all six", 6, Games.prepared(Games.spoon(0, 4, 4, 0, 9), Games.spoon(1, 4, 5, 0, 1),
                Games.spoon(1, 4, 6, 0, 1), Games.spoon(1, 5, 5, 0, 1), Games.spoon(1, 3, 5, 0, 1),
                Games.spoon(1, 2, 6, 0, 1), Games.spoon(1, 4, 9, 0, 1)));
        SpoonNavy empty = Games.started(Games.spoon(0, 4, 4, 0, 1), Games.spoon(1, 4, 5, 0, 1));
        dueTargets("with one cube", 1, empty);
        empty.fire(0, 4, 5);
        dueTargets("without cubes", 0, empty);
    }

    private static void targetsOfTheOtherFleet() {
        dueTargets("own ones", 0, Games.prepared(Games.spoon(0, 4, 4, 0, 9), Games.spoon(0, 4, 5, 0, 1)));
        dueTargets("own ones of fleet 1", 0, Games.prepared(Games.spoon(1, 4, 4, 0, 9), Games.spoon(1, 4, 5, 0, 1)));
        dueTargets("of fleet 1 at fleet 0", 1, Games.prepared(Games.spoon(1, 4, 4, 0, 9), Games.spoon(0, 4, 5, 0, 1)));
        dueTargets("behind an own one", 1, Games.prepared(Games.spoon(0, 4, 4, 0, 9), Games.spoon(0, 4, 5, 0, 1),
                Games.spoon(1, 4, 6, 0, 1)));
    }

    private static void targetsThatAreSunk() {
        SpoonNavy navy = Games.started(Games.spoon(0, 2, 2, 0, 9), Games.spoon(1, 2, 4, 4, 3),
                Games.spoon(1, 2, 5, 4, 6));
        dueTargets("both", 2, navy);
        navy.fire(0, 2, 4);
        dueTargets("one was hit", 2, navy);
        navy.fire(0, 2, 4);
        dueTargets("one is sunk", 1, navy);
        dueTargets("all are sunk", 0, Games.finished());
    }

    private static void targetsOfTheSunk() {
        CHECK.sentence("Promise 33", "Returns the number of spoons, 0 for a sunk spoon.");
        SpoonNavy navy = Games.withSunkSpoon();
        CHECK.due("sunk", navy.targetCount(1), 0);
        CHECK.sentence("Promise 34", "Returns the same number as targetCount(), found cell by cell.");
        CHECK.due("sunk", navy.targetCountByCells(1), 0);
        navy.undo();
        CHECK.due("hit once", navy.targetCount(1), 1);
        CHECK.due("hit once, by cells", navy.targetCountByCells(1), 1);
    }

    private static void targetsOfNoSpoon() {
        CHECK.sentence("Promise 33", NO_SPOON);
        CHECK.dueNoSuchSpoon((navy, spoon) -> navy.targetCount(spoon));
        CHECK.sentence("Promise 34", NO_SPOON);
        CHECK.dueNoSuchSpoon((navy, spoon) -> navy.targetCountByCells(spoon));
    }

    // ---- promise 35

    private static void aheadToTheEdge() {
        CHECK.sentence("Promise 35", "Returns how many cells a spoon could sail before it would have to stop.");
        int[] fromTheMiddle = {4, 4, 4, 4, 5, 5, 5, 4};
        int[] fromTheLowest = {9, 9, 9, 0, 0, 0, 0, 0};
        int[] fromTheHighest = {0, 0, 0, 0, 9, 9, 9, 0};
        for (int bearing = 0; bearing < 8; bearing++) {
            SpoonNavy navy = Games.prepared(Games.spoon(0, 5, 5, bearing, 1));
            CHECK.due("from 5, 5 in " + bearing, navy.cellsAhead(0), fromTheMiddle[bearing]);
            navy = Games.prepared(Games.spoon(0, 0, 0, bearing, 1));
            CHECK.due("from 0, 0 in " + bearing, navy.cellsAhead(0), fromTheLowest[bearing]);
            navy = Games.prepared(Games.spoon(0, 9, 9, bearing, 1));
            CHECK.due("from 9, 9 in " + bearing, navy.cellsAhead(0), fromTheHighest[bearing]);
        }
        SpoonNavy finished = Games.finished();
        CHECK.due("finished, over a sunk one's cell", finished.cellsAhead(0), 7);
    }

    private static void aheadToASpoon() {
        CHECK.sentence("Promise 35, a spoon ahead", "Returns how many cells a spoon could sail before it would have to"
                + " stop.");
        for (int free = 0; free < 9; free++) {
            for (int fleet = 0; fleet < 2; fleet++) {
                SpoonNavy navy = Games.prepared(Games.spoon(0, 3, 0, 0, 1), Games.spoon(fleet, 3, 1 + free, 0, 1));
                CHECK.due("free cells", navy.cellsAhead(0), free);
            }
        }
        SpoonNavy aslant = Games.prepared(Games.spoon(0, 0, 0, 1, 1), Games.spoon(1, 3, 3, 5, 1),
                Games.spoon(1, 1, 2, 0, 1));
        CHECK.due("aslant", aslant.cellsAhead(0), 2);
        CHECK.due("aslant back", aslant.cellsAhead(1), 2);
    }

    private static void aheadOfNoSpoon() {
        CHECK.sentence("Promise 35", NO_SPOON);
        CHECK.dueNoSuchSpoon((navy, spoon) -> navy.cellsAhead(spoon));
    }

    private static void aheadOfTheSunk() {
        CHECK.sentence("Promise 35", "Throws `NoSuchElementException` if the spoon is sunk");
        SpoonNavy navy = Games.withSunkSpoon();
        CHECK.dueThrow("sunk", Check.NO_ELEMENT, () -> navy.cellsAhead(1));
        navy.undo();
        CHECK.due("hit once", navy.cellsAhead(1), 1);
    }

    // ---- promises 36 to 42

    private static void pots() {
        CHECK.sentence("Promise 36", "Returns the number of cubes in the pot of a fleet.");
        CHECK.due("new, fleet 0", new SpoonNavy().potOf(0), 20);
        CHECK.due("new, fleet 1", new SpoonNavy().potOf(1), 20);
        SpoonNavy navy = Games.started(Games.spoon(0, 0, 0, 0, 1), Games.spoon(0, 1, 0, 0, 1),
                Games.spoon(0, 2, 0, 0, 1), Games.spoon(1, 9, 9, 4, 3));
        Games.run(navy, "load 0 8;load 1 8;load 2 4");
        CHECK.due("empty", navy.potOf(0), 0);
        CHECK.due("the other one", navy.potOf(1), 20);
        navy.undo();
        CHECK.due("undone", navy.potOf(0), 20);
    }

    private static void noSuchFleet() {
        CHECK.sentence("Promise 36", NO_FLEET);
        CHECK.dueNoSuchFleet((navy, fleet) -> navy.potOf(fleet));
        CHECK.sentence("Promise 37", NO_FLEET);
        CHECK.dueNoSuchFleet((navy, fleet) -> navy.fleetCubes(fleet));
        CHECK.sentence("Promise 38", NO_FLEET);
        CHECK.dueNoSuchFleet((navy, fleet) -> navy.fleetCubesByAccount(fleet));
    }

    private static void cubesOfTheFleets() {
        CHECK.sentence("Promise 37", "Returns the number of cubes on all spoons of a fleet, added spoon by spoon.");
        CHECK.due("no spoons", new SpoonNavy().fleetCubes(0), 0);
        CHECK.due("six of fleet 0", Games.twelve().fleetCubes(0), 6);
        CHECK.due("six of fleet 1", Games.twelve().fleetCubes(1), 6);
        CHECK.due("a sunk one has none", Games.withSunkSpoon().fleetCubes(1), 6);
        CHECK.due("all are sunk", Games.finished().fleetCubes(1), 0);
        SpoonNavy navy = new SpoonNavy();
        for (int x = 0; x < 6; x++) {
            navy.addSpoon(1, x, 0, 0, 9);
        }
        CHECK.due("the most", navy.fleetCubes(1), 54);
        CHECK.due("the other fleet", navy.fleetCubes(0), 0);
    }

    private static void cubesByAccount() {
        CHECK.sentence("Promise 38", "the cubes with which its spoons were added, plus those loaded, minus those fired,"
                + " used for sailing secretly, and sunk.");
        CHECK.due("no spoons", new SpoonNavy().fleetCubesByAccount(1), 0);
        SpoonNavy navy = Games.started(Games.spoon(0, 2, 2, 0, 5), Games.spoon(0, 2, 3, 0, 4),
                Games.spoon(1, 9, 9, 4, 6));
        CHECK.due("added", navy.fleetCubesByAccount(0), 9);
        navy.load(1, 5);
        CHECK.due("loaded", navy.fleetCubesByAccount(0), 14);
        navy.sail(1, 3, true);
        CHECK.due("sailed secretly", navy.fleetCubesByAccount(0), 13);
        navy.fire(0, 2, 6);
        CHECK.due("fired at an own one", navy.fleetCubesByAccount(0), 12);
        Games.run(navy, "end;end");
        navy.fire(0, 2, 6);
        CHECK.due("fired and sunk", navy.fleetCubesByAccount(0), 3);
        CHECK.due("by spoons", navy.fleetCubes(0), 3);
        CHECK.due("the other fleet", navy.fleetCubesByAccount(1), 6);
        CHECK.due("all are sunk", Games.finished().fleetCubesByAccount(1), 0);
        SpoonNavy empty = Games.started(Games.spoon(0, 2, 2, 0, 9), Games.spoon(1, 2, 4, 4, 1));
        Games.run(empty, "end;fire 1 23;end;fire 0 24;fire 0 24");
        CHECK.due("sunk without cubes", empty.fleetCubesByAccount(1), 0);
    }

    private static void shots() {
        CHECK.sentence("Promise 39", "Returns the number of shots so far.");
        SpoonNavy navy = Games.started(Games.spoon(0, 2, 2, 0, 2), Games.spoon(1, 2, 4, 4, 3));
        CHECK.due("none", navy.shotCount(), 0);
        CHECK.dueRefusal("refused", navy, 4, () -> navy.fire(0, 2, 5));
        CHECK.due("a refused one", navy.shotCount(), 0);
        navy.fire(0, 2, 3);
        CHECK.due("at nothing", navy.shotCount(), 1);
        navy.undo();
        CHECK.due("undone", navy.shotCount(), 0);
        CHECK.due("the last of the game", Games.finished().shotCount(), 2);
        CHECK.due("of fleet 1", Games.lost().shotCount(), 2);
    }

    private static void hits() {
        CHECK.sentence("Promise 40", "Returns the number of shots by which a spoon was hit or sunk so far.");
        SpoonNavy navy = Games.started(Games.spoon(0, 2, 2, 0, 5), Games.spoon(0, 2, 3, 0, 5),
                Games.spoon(1, 2, 4, 4, 3));
        CHECK.due("none", navy.hitCount(), 0);
        navy.fire(0, 2, 5);
        CHECK.due("at nothing", navy.hitCount(), 0);
        navy.fire(0, 2, 4);
        CHECK.due("hit", navy.hitCount(), 1);
        navy.fire(0, 2, 3);
        CHECK.due("own one hit", navy.hitCount(), 2);
        CHECK.due("hit and sunk", Games.finished().hitCount(), 2);
        navy.undo();
        CHECK.due("undone", navy.hitCount(), 1);
    }

    private static void cells() {
        CHECK.sentence("Promise 41", "Returns the number of cells that spoons have sailed so far.");
        SpoonNavy navy = Games.started(Games.spoon(0, 0, 5, 0, 5), Games.spoon(1, 9, 9, 4, 3));
        CHECK.due("none", navy.cellsSailed(), 0);
        navy.sail(0, 3, false);
        CHECK.due("three", navy.cellsSailed(), 3);
        navy.sail(0, 3, true);
        CHECK.due("stopped early at the edge", navy.cellsSailed(), 4);
        CHECK.dueRefusal("refused", navy, 3, () -> navy.sail(0, 1, true));
        CHECK.due("a refused one", navy.cellsSailed(), 4);
        navy.endTurn();
        navy.sail(1, 2, false);
        CHECK.due("of fleet 1", navy.cellsSailed(), 6);
        navy.undo();
        CHECK.due("undone", navy.cellsSailed(), 4);
    }

    private static void secrets() {
        CHECK.sentence("Promise 42", "Returns how often a spoon has sailed secretly so far.");
        SpoonNavy navy = Games.started(Games.spoon(0, 0, 5, 0, 2), Games.spoon(1, 9, 9, 4, 3));
        CHECK.due("none", navy.secretCount(), 0);
        navy.sail(0, 1, false);
        CHECK.due("openly", navy.secretCount(), 0);
        navy.sail(0, 3, true);
        CHECK.due("once, by 3 cells", navy.secretCount(), 1);
        CHECK.dueRefusal("refused", navy, 3, () -> navy.sail(0, 1, true));
        CHECK.due("a refused one", navy.secretCount(), 1);
        navy.endTurn();
        navy.sail(1, 1, true);
        CHECK.due("of fleet 1", navy.secretCount(), 2);
        navy.undo();
        CHECK.due("undone", navy.secretCount(), 1);
    }
}
