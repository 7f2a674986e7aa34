/** Promises 16 to 29: each sentence that names a boundary has a test of its own. */
public final class BoundarySpoonsTest {

    private static final Check CHECK = new Check();
    private static final String NO_SPOON = "Throws `IndexOutOfBoundsException` if there is no such spoon";
    private static final String SUNK = "Throws `NoSuchElementException` if the spoon is sunk";

    public static void main(String[] args) {
        sunkOnesIncluded();
        noSuchSpoon();
        sunkSpoonsHaveNoCell();
        coordinatesOfTheLastHull();
        bearingOfTheSunk();
        cubesOfTheSunk();
        hullOfTheSunk();
        isSunkByHull();
        spoonInACell();
        spoonAtOutOfRange();
        spoonAtAnEmptyCell();
        knownCellOfTheSunk();
        hiddenInAnotherCell();
        hiddenAndSunk();
        floatingOnes();
        floatingOfNoFleet();
        rankByCubes();
        rankByHull();
        rankByNumber();
        rankOfTheSunk();
        noSuchRank();
        CHECK.finish();
    }

    private static void sunkOnesIncluded() {
        CHECK.sentence("Promise 16", "Returns the number of spoons, sunk ones included.");
        CHECK.due("none", new SpoonNavy().spoonCount(), 0);
        CHECK.due("twelve", Games.twelve().spoonCount(), 12);
        CHECK.due("one of three is sunk", Games.withSunkSpoon().spoonCount(), 3);
        CHECK.due("one of two is sunk", Games.finished().spoonCount(), 2);
    }

    private static void noSuchSpoon() {
        CHECK.sentence("Promise 17", NO_SPOON);
        CHECK.dueNoSuchSpoon((navy, spoon) -> navy.fleetOf(spoon));
        CHECK.sentence("Promise 18", NO_SPOON);
        CHECK.dueNoSuchSpoon((navy, spoon) -> navy.xOf(spoon));
        CHECK.sentence("Promise 19", NO_SPOON);
        CHECK.dueNoSuchSpoon((navy, spoon) -> navy.yOf(spoon));
        CHECK.sentence("Promise 20", NO_SPOON);
        CHECK.dueNoSuchSpoon((navy, spoon) -> navy.bearingOf(spoon));
        CHECK.sentence("Promise 21", NO_SPOON);
        CHECK.dueNoSuchSpoon((navy, spoon) -> navy.cubesOf(spoon));
        CHECK.sentence("Promise 22", NO_SPOON);
        CHECK.dueNoSuchSpoon((navy, spoon) -> navy.hullOf(spoon));
        CHECK.sentence("Promise 23", NO_SPOON);
        CHECK.dueNoSuchSpoon((navy, spoon) -> navy.isSunk(spoon));
        CHECK.sentence("Promise 25", NO_SPOON);
        CHECK.dueNoSuchSpoon((navy, spoon) -> navy.knownX(spoon));
        CHECK.sentence("Promise 26", NO_SPOON);
        CHECK.dueNoSuchSpoon((navy, spoon) -> navy.knownY(spoon));
        CHECK.sentence("Promise 27", NO_SPOON);
        CHECK.dueNoSuchSpoon((navy, spoon) -> navy.isHidden(spoon));
        CHECK.sentence("Promise 17", "Returns the fleet.");
        CHECK.due("the first of twelve", Games.twelve().fleetOf(0), 0);
        CHECK.due("the last of twelve", Games.twelve().fleetOf(11), 1);
        CHECK.due("sunk", Games.withSunkSpoon().fleetOf(1), 1);
    }

    private static void sunkSpoonsHaveNoCell() {
        SpoonNavy navy = Games.withSunkSpoon();
        CHECK.sentence("Promise 18", SUNK);
        CHECK.dueThrow("sunk", Check.NO_ELEMENT, () -> navy.xOf(1));
        CHECK.due("of the same fleet, not sunk", navy.xOf(2), 9);
        CHECK.sentence("Promise 19", SUNK);
        CHECK.dueThrow("sunk", Check.NO_ELEMENT, () -> navy.yOf(1));
        CHECK.due("of the same fleet, not sunk", navy.yOf(2), 9);
    }

    private static void coordinatesOfTheLastHull() {
        SpoonNavy navy = Games.withSunkSpoon();
        navy.undo();
        CHECK.sentence("Promise 18, a hull of 1", SUNK);
        CHECK.due("x", navy.xOf(1), 2);
        CHECK.sentence("Promise 19, a hull of 1", SUNK);
        CHECK.due("y", navy.yOf(1), 4);
        CHECK.sentence("Promise 25, a hull of 1", SUNK);
        CHECK.due("x", navy.knownX(1), 2);
        CHECK.sentence("Promise 26, a hull of 1", SUNK);
        CHECK.due("y", navy.knownY(1), 4);
    }

    private static void bearingOfTheSunk() {
        CHECK.sentence("Promise 20", "Returns the bearing, for a sunk spoon the one that it had.");
        SpoonNavy navy = Games.started(Games.spoon(0, 2, 2, 0, 5), Games.spoon(1, 2, 4, 7, 3),
                Games.spoon(1, 9, 9, 0, 6));
        Games.run(navy, "end;turn 1 3;end;fire 0 24;fire 0 24");
        CHECK.due("sunk", navy.isSunk(1), true);
        CHECK.due("sunk, the latest one", navy.bearingOf(1), 3);
        CHECK.due("not sunk", navy.bearingOf(2), 0);
    }

    private static void cubesOfTheSunk() {
        CHECK.sentence("Promise 21", "Returns the number of cubes, 0 for a sunk spoon.");
        SpoonNavy navy = Games.withSunkSpoon();
        CHECK.due("sunk", navy.cubesOf(1), 0);
        CHECK.due("not sunk", navy.cubesOf(2), 6);
        navy.undo();
        CHECK.due("hull 1", navy.cubesOf(1), 3);
    }

    private static void hullOfTheSunk() {
        CHECK.sentence("Promise 22", "Returns the hull, 0 for a sunk spoon.");
        SpoonNavy navy = Games.withSunkSpoon();
        CHECK.due("sunk", navy.hullOf(1), 0);
        CHECK.due("whole", navy.hullOf(2), 2);
        navy.undo();
        CHECK.due("hit once", navy.hullOf(1), 1);
    }

    private static void isSunkByHull() {
        CHECK.sentence("Promise 23", "Returns whether it is sunk.");
        SpoonNavy navy = Games.withSunkSpoon();
        CHECK.due("hull 0", navy.isSunk(1), true);
        CHECK.due("hull 2", navy.isSunk(2), false);
        navy.undo();
        CHECK.due("hull 1", navy.isSunk(1), false);
        SpoonNavy empty = Games.started(Games.spoon(0, 0, 0, 0, 1), Games.spoon(1, 9, 9, 0, 1));
        empty.fire(0, 0, 1);
        CHECK.due("no cubes", empty.isSunk(0), false);
    }

    private static void spoonInACell() {
        CHECK.sentence("Promise 24", "Returns the spoon.");
        SpoonNavy navy = Games.started(Games.spoon(0, 0, 0, 0, 3), Games.spoon(1, 9, 0, 0, 3),
                Games.spoon(0, 0, 9, 4, 3), Games.spoon(1, 9, 9, 4, 3));
        CHECK.due("0, 0", navy.spoonAt(0, 0), 0);
        CHECK.due("9, 0", navy.spoonAt(9, 0), 1);
        CHECK.due("0, 9", navy.spoonAt(0, 9), 2);
        CHECK.due("9, 9", navy.spoonAt(9, 9), 3);
        navy.sail(0, 2, true);
        CHECK.due("a hidden one where it is", navy.spoonAt(0, 2), 0);
        CHECK.dueThrow("and not where it is known", Check.NO_ELEMENT, () -> navy.spoonAt(0, 0));
    }

    private static void spoonAtOutOfRange() {
        CHECK.sentence("Promise 24", "Throws `IllegalArgumentException` if a coordinate is out of range");
        SpoonNavy navy = Games.withSunkSpoon();
        CHECK.dueThrowOutside("x", 0, 9, Check.ARGUMENT, x -> navy.spoonAt(x, 9));
        CHECK.dueThrowOutside("y", 0, 9, Check.ARGUMENT, y -> navy.spoonAt(9, y));
        CHECK.dueThrow("both", Check.ARGUMENT, () -> navy.spoonAt(10, -1));
    }

    private static void spoonAtAnEmptyCell() {
        CHECK.sentence("Promise 24", "Throws `NoSuchElementException` if no spoon is in the cell");
        SpoonNavy navy = Games.withSunkSpoon();
        CHECK.dueThrow("a sunk one's", Check.NO_ELEMENT, () -> navy.spoonAt(2, 4));
        CHECK.dueThrow("0, 0", Check.NO_ELEMENT, () -> navy.spoonAt(0, 0));
        CHECK.dueThrow("x of a spoon", Check.NO_ELEMENT, () -> navy.spoonAt(2, 3));
        CHECK.dueThrow("y of a spoon", Check.NO_ELEMENT, () -> navy.spoonAt(1, 2));
        SpoonNavy none = new SpoonNavy();
        CHECK.dueThrow("no spoons", Check.NO_ELEMENT, () -> none.spoonAt(0, 0));
    }

    private static void knownCellOfTheSunk() {
        SpoonNavy navy = Games.withSunkSpoon();
        CHECK.sentence("Promise 25", SUNK);
        CHECK.dueThrow("sunk", Check.NO_ELEMENT, () -> navy.knownX(1));
        CHECK.due("of the same fleet, not sunk", navy.knownX(2), 9);
        CHECK.sentence("Promise 26", SUNK);
        CHECK.dueThrow("sunk", Check.NO_ELEMENT, () -> navy.knownY(1));
        CHECK.due("of the same fleet, not sunk", navy.knownY(2), 9);
    }

    private static void hiddenInAnotherCell() {
        CHECK.sentence("Promise 27", "the other fleet knows it in another cell than its own.");
        int[] steps = {0, 2, 1, 3};
        for (int bearing : steps) {
            SpoonNavy navy = Games.started(Games.spoon(0, 0, 5, bearing, 9), Games.spoon(1, 9, 9, 4, 9));
            CHECK.due("not yet", navy.isHidden(0), false);
            navy.sail(0, 1, true);
            CHECK.due("by bearing " + bearing, navy.isHidden(0), true);
            navy.turnTo(0, (bearing + 4) % 8);
            navy.sail(0, 1, true);
            CHECK.due("back again", navy.isHidden(0), false);
        }
    }

    private static void hiddenAndSunk() {
        CHECK.sentence("Promise 27", "Returns whether a spoon is hidden: whether it is not sunk");
        SpoonNavy navy = Games.started(Games.spoon(0, 0, 0, 0, 9), Games.spoon(1, 0, 9, 4, 9),
                Games.spoon(1, 9, 9, 0, 1));
        Games.run(navy, "end;sneak 1 2;end");
        CHECK.due("hidden", navy.isHidden(1), true);
        Games.run(navy, "fire 0 07;fire 0 07");
        CHECK.due("sunk", navy.isHidden(1), false);
        CHECK.due("sunk as it was added", Games.withSunkSpoon().isHidden(1), false);
    }

    private static void floatingOnes() {
        CHECK.sentence("Promise 28", "Returns the number of spoons of a fleet that are not sunk.");
        CHECK.due("no spoons", new SpoonNavy().floating(0), 0);
        CHECK.due("six of fleet 0", Games.twelve().floating(0), 6);
        CHECK.due("six of fleet 1", Games.twelve().floating(1), 6);
        CHECK.due("one of two is sunk", Games.withSunkSpoon().floating(1), 1);
        CHECK.due("all are sunk", Games.finished().floating(1), 0);
        CHECK.due("none is sunk", Games.finished().floating(0), 1);
        CHECK.due("all of fleet 0 are sunk", Games.lost().floating(0), 0);
    }

    private static void floatingOfNoFleet() {
        CHECK.sentence("Promise 28", "Throws `IndexOutOfBoundsException` if there is no such fleet");
        CHECK.dueNoSuchFleet((navy, fleet) -> navy.floating(fleet));
    }

    // ---- promise 29

    private static void rankByCubes() {
        CHECK.sentence("Promise 29", "the spoon with more cubes first");
        SpoonNavy navy = Games.started(Games.spoon(0, 0, 0, 0, 1), Games.spoon(1, 0, 1, 4, 9),
                Games.spoon(1, 9, 9, 4, 2));
        dueRanks(navy, 1, 2, 0);
        navy.fire(0, 0, 1);
        CHECK.due("more cubes before the greater hull", navy.hullOf(1), 1);
        dueRanks(navy, 1, 2, 0);
        navy.load(0, 3);
        dueRanks(navy, 1, 0, 2);
        SpoonNavy empty = Games.started(Games.spoon(0, 0, 0, 0, 1), Games.spoon(1, 9, 9, 4, 1));
        empty.fire(0, 0, 1);
        dueRanks(empty, 1, 0);
    }

    private static void rankByHull() {
        CHECK.sentence("Promise 29", "of spoons with as many cubes the one with the greater hull first");
        SpoonNavy navy = Games.started(Games.spoon(0, 0, 0, 0, 5), Games.spoon(1, 0, 1, 4, 4),
                Games.spoon(1, 9, 9, 4, 4));
        navy.fire(0, 0, 1);
        dueRanks(navy, 0, 2, 1);
    }

    private static void rankByNumber() {
        CHECK.sentence("Promise 29", "then the one with the lower number first.");
        dueRanks(Games.twelve(), 0, 1, 2, 3, 4, 5, 6, 7, 8, 9, 10, 11);
        SpoonNavy navy = Games.started(Games.spoon(0, 0, 0, 0, 9), Games.spoon(1, 0, 1, 4, 4),
                Games.spoon(1, 0, 2, 4, 4));
        Games.run(navy, "fire 0 01;fire 0 02");
        dueRanks(navy, 0, 1, 2);
    }

    private static void rankOfTheSunk() {
        CHECK.sentence("Promise 29", "Returns the spoon at a rank among the spoons that are not sunk");
        SpoonNavy navy = Games.withSunkSpoon();
        dueRanks(navy, 2, 0);
        dueRanks(Games.finished(), 0);
        dueRanks(Games.lost(), 1);
    }

    private static void noSuchRank() {
        CHECK.sentence("Promise 29", "Throws `NoSuchElementException` if there is no such rank");
        SpoonNavy none = new SpoonNavy();
        CHECK.dueThrowOutside("no spoons, rank", 0, -1, Check.NO_ELEMENT, rank -> none.spoonAtRank(rank));
        SpoonNavy three = Games.withSunkSpoon();
        CHECK.dueThrowOutside("one of three is sunk, rank", 0, 1, Check.NO_ELEMENT, rank -> three.spoonAtRank(rank));
        SpoonNavy twelve = Games.twelve();
        CHECK.dueThrowOutside("twelve, rank", 0, 11, Check.NO_ELEMENT, rank -> twelve.spoonAtRank(rank));
    }

    private static void dueRanks(SpoonNavy navy, int... spoons) {
        for (int rank = 0; rank < spoons.length; rank++) {
            CHECK.due("rank " + rank, navy.spoonAtRank(rank), spoons[rank]);
        }
        CHECK.dueThrow("rank " + spoons.length, Check.NO_ELEMENT, () -> navy.spoonAtRank(spoons.length));
    }
}
