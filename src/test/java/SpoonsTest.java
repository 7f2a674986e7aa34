/** Promises 16 to 29: what is asked of spoons. */
public final class SpoonsTest {

    private static final Check CHECK = new Check();
    private static final int[] NO_SPOONS = {-1, 3, 11, 12, Integer.MIN_VALUE, Integer.MAX_VALUE};

    public static void main(String[] args) {
        spoonCount();
        fleetOf();
        coordinates();
        bearingOf();
        cubesOf();
        hullOf();
        isSunk();
        spoonAt();
        knownCell();
        isHidden();
        floating();
        spoonAtRank();
        CHECK.finish();
    }

    private static void spoonCount() {
        CHECK.promise(16, "spoonCount");
        SpoonNavy navy = new SpoonNavy();
        CHECK.due("none", navy.spoonCount(), 0);
        navy.addSpoon(1, 0, 0, 0, 1);
        CHECK.due("one", navy.spoonCount(), 1);
        CHECK.due("a sunk one is included", Games.withSunkSpoon().spoonCount(), 3);
    }

    private static void fleetOf() {
        CHECK.promise(17, "fleetOf");
        SpoonNavy navy = Games.withSunkSpoon();
        CHECK.due("fleet 0", navy.fleetOf(0), 0);
        CHECK.due("sunk", navy.fleetOf(1), 1);
        CHECK.due("fleet 1", navy.fleetOf(2), 1);
        for (int none : NO_SPOONS) {
            CHECK.dueThrow("spoon " + none, Check.INDEX, () -> navy.fleetOf(none));
        }
        SpoonNavy fresh = new SpoonNavy();
        CHECK.dueThrow("spoon 0 of none", Check.INDEX, () -> fresh.fleetOf(0));
    }

    private static void coordinates() {
        SpoonNavy navy = Games.withSunkSpoon();
        navy.sail(0, 3, false);
        CHECK.promise(18, "xOf");
        CHECK.due("x", navy.xOf(0), 2);
        CHECK.due("x at the edge", navy.xOf(2), 9);
        CHECK.dueThrow("sunk", Check.NO_ELEMENT, () -> navy.xOf(1));
        for (int none : NO_SPOONS) {
            CHECK.dueThrow("spoon " + none, Check.INDEX, () -> navy.xOf(none));
        }
        CHECK.promise(19, "yOf");
        CHECK.due("y", navy.yOf(0), 5);
        CHECK.due("y at the edge", navy.yOf(2), 9);
        CHECK.dueThrow("sunk", Check.NO_ELEMENT, () -> navy.yOf(1));
        for (int none : NO_SPOONS) {
            CHECK.dueThrow("spoon " + none, Check.INDEX, () -> navy.yOf(none));
        }
    }

    private static void bearingOf() {
        CHECK.promise(20, "bearingOf");
        SpoonNavy navy = Games.withSunkSpoon();
        CHECK.due("bearing", navy.bearingOf(0), 0);
        CHECK.due("the one that a sunk spoon had", navy.bearingOf(1), 4);
        navy.turnTo(0, 7);
        CHECK.due("turned", navy.bearingOf(0), 7);
        for (int none : NO_SPOONS) {
            CHECK.dueThrow("spoon " + none, Check.INDEX, () -> navy.bearingOf(none));
        }
    }

    private static void cubesOf() {
        CHECK.promise(21, "cubesOf");
        SpoonNavy navy = Games.withSunkSpoon();
        CHECK.due("after two shots", navy.cubesOf(0), 3);
        CHECK.due("sunk", navy.cubesOf(1), 0);
        CHECK.due("as added", navy.cubesOf(2), 6);
        for (int none : NO_SPOONS) {
            CHECK.dueThrow("spoon " + none, Check.INDEX, () -> navy.cubesOf(none));
        }
    }

    private static void hullOf() {
        CHECK.promise(22, "hullOf");
        SpoonNavy navy = Games.withSunkSpoon();
        CHECK.due("whole", navy.hullOf(0), 2);
        CHECK.due("sunk", navy.hullOf(1), 0);
        navy.undo();
        CHECK.due("hit once", navy.hullOf(1), 1);
        for (int none : NO_SPOONS) {
            CHECK.dueThrow("spoon " + none, Check.INDEX, () -> navy.hullOf(none));
        }
    }

    private static void isSunk() {
        CHECK.promise(23, "isSunk");
        SpoonNavy navy = Games.withSunkSpoon();
        CHECK.due("floating", navy.isSunk(0), false);
        CHECK.due("sunk", navy.isSunk(1), true);
        navy.undo();
        CHECK.due("hit once", navy.isSunk(1), false);
        for (int none : NO_SPOONS) {
            CHECK.dueThrow("spoon " + none, Check.INDEX, () -> navy.isSunk(none));
        }
    }

    private static void spoonAt() {
        CHECK.promise(24, "spoonAt");
        SpoonNavy navy = Games.withSunkSpoon();
        CHECK.due("spoon 0", navy.spoonAt(2, 2), 0);
        CHECK.due("spoon 2", navy.spoonAt(9, 9), 2);
        CHECK.dueThrow("empty cell", Check.NO_ELEMENT, () -> navy.spoonAt(0, 0));
        CHECK.dueThrow("cell of the sunk spoon", Check.NO_ELEMENT, () -> navy.spoonAt(2, 4));
        int[] wrongCoordinates = {-1, 10, Integer.MIN_VALUE, Integer.MAX_VALUE};
        for (int wrong : wrongCoordinates) {
            CHECK.dueThrow("x " + wrong, Check.ARGUMENT, () -> navy.spoonAt(wrong, 0));
            CHECK.dueThrow("y " + wrong, Check.ARGUMENT, () -> navy.spoonAt(0, wrong));
        }
        SpoonNavy fresh = new SpoonNavy();
        CHECK.dueThrow("empty tray", Check.NO_ELEMENT, () -> fresh.spoonAt(0, 0));
    }

    private static void knownCell() {
        SpoonNavy navy = Games.withSunkSpoon();
        navy.endTurn();
        navy.turnTo(2, 5);
        navy.sail(2, 3, true);
        CHECK.promise(25, "knownX");
        CHECK.due("where it was", navy.knownX(2), 9);
        CHECK.due("own cell", navy.knownX(0), 2);
        CHECK.dueThrow("sunk", Check.NO_ELEMENT, () -> navy.knownX(1));
        for (int none : NO_SPOONS) {
            CHECK.dueThrow("spoon " + none, Check.INDEX, () -> navy.knownX(none));
        }
        CHECK.promise(26, "knownY");
        CHECK.due("where it was", navy.knownY(2), 9);
        CHECK.due("own cell", navy.knownY(0), 2);
        CHECK.dueThrow("sunk", Check.NO_ELEMENT, () -> navy.knownY(1));
        for (int none : NO_SPOONS) {
            CHECK.dueThrow("spoon " + none, Check.INDEX, () -> navy.knownY(none));
        }
        navy.sail(2, 1, false);
        CHECK.promise(25, "knownX");
        CHECK.due("after open sailing", navy.knownX(2), 5);
        CHECK.promise(26, "knownY");
        CHECK.due("after open sailing", navy.knownY(2), 5);
    }

    private static void isHidden() {
        CHECK.promise(27, "isHidden");
        SpoonNavy navy = Games.started(Games.spoon(0, 0, 0, 0, 9), Games.spoon(0, 9, 0, 6, 9),
                Games.spoon(1, 5, 9, 4, 9));
        CHECK.due("at first", navy.isHidden(0), false);
        navy.sail(0, 1, true);
        CHECK.due("another y alone", navy.isHidden(0), true);
        navy.sail(1, 1, true);
        CHECK.due("another x alone", navy.isHidden(1), true);
        CHECK.due("own fleet is not asked", navy.isHidden(2), false);
        for (int none : NO_SPOONS) {
            CHECK.dueThrow("spoon " + none, Check.INDEX, () -> navy.isHidden(none));
        }
        hiddenSpoonIsSunk();
    }

    private static void hiddenSpoonIsSunk() {
        SpoonNavy navy = Games.started(Games.spoon(0, 0, 0, 0, 9), Games.spoon(1, 0, 9, 4, 9),
                Games.spoon(1, 9, 9, 0, 1));
        navy.endTurn();
        navy.sail(1, 2, true);
        CHECK.due("hidden", navy.isHidden(1), true);
        navy.endTurn();
        navy.fire(0, 0, 7);
        navy.fire(0, 0, 7);
        CHECK.due("sunk", navy.isSunk(1), true);
        CHECK.due("not hidden any more", navy.isHidden(1), false);
    }

    private static void floating() {
        CHECK.promise(28, "floating");
        SpoonNavy navy = Games.withSunkSpoon();
        CHECK.due("fleet 0", navy.floating(0), 1);
        CHECK.due("fleet 1", navy.floating(1), 1);
        navy.undo();
        CHECK.due("fleet 1, hit once", navy.floating(1), 2);
        CHECK.due("all sunk", Games.finished().floating(1), 0);
        int[] noFleets = {-1, 2, Integer.MIN_VALUE, Integer.MAX_VALUE};
        for (int none : noFleets) {
            CHECK.dueThrow("fleet " + none, Check.INDEX, () -> navy.floating(none));
        }
    }

    private static void spoonAtRank() {
        CHECK.promise(29, "spoonAtRank");
        SpoonNavy navy = Games.started(Games.spoon(0, 0, 0, 0, 3), Games.spoon(1, 0, 2, 4, 4),
                Games.spoon(1, 2, 2, 4, 4), Games.spoon(0, 5, 5, 4, 9), Games.spoon(1, 9, 9, 4, 1));
        CHECK.due("most cubes", navy.spoonAtRank(0), 3);
        CHECK.due("lower number", navy.spoonAtRank(1), 1);
        CHECK.due("higher number", navy.spoonAtRank(2), 2);
        CHECK.due("fewer cubes", navy.spoonAtRank(3), 0);
        CHECK.due("fewest cubes", navy.spoonAtRank(4), 4);
        CHECK.dueThrow("rank 5", Check.NO_ELEMENT, () -> navy.spoonAtRank(5));
        navy.fire(0, 0, 2);
        CHECK.due("greater hull", navy.spoonAtRank(1), 2);
        CHECK.due("smaller hull", navy.spoonAtRank(2), 1);
        navy.fire(0, 0, 2);
        CHECK.due("sunk spoons have no rank", navy.spoonAtRank(1), 2);
        CHECK.due("as many cubes, lower number", navy.spoonAtRank(2), 0);
        CHECK.due("as many cubes, higher number", navy.spoonAtRank(3), 4);
        int[] noRanks = {4, 5, -1, 12, Integer.MIN_VALUE, Integer.MAX_VALUE};
        for (int none : noRanks) {
            CHECK.dueThrow("rank " + none, Check.NO_ELEMENT, () -> navy.spoonAtRank(none));
        }
        SpoonNavy fresh = new SpoonNavy();
        CHECK.dueThrow("no spoons", Check.NO_ELEMENT, () -> fresh.spoonAtRank(0));
    }
}
