/** Promises 30 to 42: bearings and ranges, cubes and totals. */
public final class RangesTest {

    private static final Check CHECK = new Check();
    private static final int[] NO_SPOONS = {-1, 3, 11, 12, Integer.MIN_VALUE, Integer.MAX_VALUE};
    private static final int[] NO_FLEETS = {-1, 2, Integer.MIN_VALUE, Integer.MAX_VALUE};
    private static final int[] NO_COORDINATES = {-1, 10, Integer.MIN_VALUE, Integer.MAX_VALUE};

    public static void main(String[] args) {
        distance();
        directionTo();
        isInReach();
        targetCounts();
        cellsAhead();
        potOf();
        fleetCubes();
        totals();
        CHECK.finish();
    }

    private static void distance() {
        CHECK.promise(30, "distance");
        SpoonNavy navy = Games.withSunkSpoon();
        CHECK.due("both differences 7", navy.distance(0, 2), 7);
        CHECK.due("to itself", navy.distance(0, 0), 0);
        CHECK.dueThrow("to a sunk one", Check.NO_ELEMENT, () -> navy.distance(0, 1));
        CHECK.dueThrow("from a sunk one", Check.NO_ELEMENT, () -> navy.distance(1, 0));
        for (int none : NO_SPOONS) {
            CHECK.dueThrow("from " + none, Check.INDEX, () -> navy.distance(none, 0));
            CHECK.dueThrow("to " + none, Check.INDEX, () -> navy.distance(0, none));
            CHECK.dueThrow("from a sunk one to " + none, Check.INDEX, () -> navy.distance(1, none));
        }
        SpoonNavy other = Games.prepared(Games.spoon(0, 1, 8, 0, 1), Games.spoon(0, 3, 7, 0, 1),
                Games.spoon(1, 2, 2, 0, 1));
        CHECK.due("x differs more", other.distance(0, 1), 2);
        CHECK.due("y differs more", other.distance(0, 2), 6);
        CHECK.due("the other way", other.distance(2, 0), 6);
    }

    private static void directionTo() {
        CHECK.promise(31, "directionTo");
        SpoonNavy navy = Games.prepared(Games.spoon(0, 4, 4, 0, 1), Games.spoon(1, 9, 9, 0, 1));
        String[] rows = {
            "5544444333",
            "5554443333",
            "6554443322",
            "6665432222",
            "6666*22222",
            "6667012222",
            "6770001122",
            "7770001111",
            "7700000111",
            "7700000111",
        };
        CHECK.dueThrow("own cell", Check.NO_ELEMENT, () -> navy.directionTo(0, 4, 4));
        for (int y = 0; y < 10; y++) {
            for (int x = 0; x < 10; x++) {
                if (x != 4 || y != 4) {
                    CHECK.due("to " + x + ", " + y, navy.directionTo(0, x, y), rows[y].charAt(x) - '0');
                }
            }
        }
        directionToWrongInputs();
    }

    private static void directionToWrongInputs() {
        SpoonNavy navy = Games.withSunkSpoon();
        CHECK.dueThrow("from a sunk one", Check.NO_ELEMENT, () -> navy.directionTo(1, 0, 0));
        CHECK.due("to a sunk one's cell", navy.directionTo(0, 2, 4), 0);
        for (int wrong : NO_COORDINATES) {
            CHECK.dueThrow("x " + wrong, Check.ARGUMENT, () -> navy.directionTo(1, wrong, 0));
            CHECK.dueThrow("y " + wrong, Check.ARGUMENT, () -> navy.directionTo(1, 0, wrong));
        }
        for (int none : NO_SPOONS) {
            CHECK.dueThrow("spoon " + none, Check.INDEX, () -> navy.directionTo(none, 10, 0));
        }
    }

    private static void isInReach() {
        CHECK.promise(32, "isInReach");
        SpoonNavy navy = Games.prepared(Games.spoon(0, 4, 4, 0, 3), Games.spoon(1, 4, 7, 3, 2),
                Games.spoon(1, 9, 0, 7, 9));
        CHECK.due("own cell", navy.isInReach(0, 4, 4), false);
        CHECK.due("distance 1", navy.isInReach(0, 4, 5), true);
        CHECK.due("distance 3", navy.isInReach(0, 4, 7), true);
        CHECK.due("distance 4", navy.isInReach(0, 4, 8), false);
        CHECK.due("direction 1", navy.isInReach(0, 7, 7), true);
        CHECK.due("direction 7", navy.isInReach(0, 1, 7), true);
        CHECK.due("direction 2", navy.isInReach(0, 7, 4), false);
        CHECK.due("direction 6", navy.isInReach(0, 1, 4), false);
        CHECK.due("direction 4", navy.isInReach(0, 4, 3), false);
        CHECK.due("bearing 7, direction 0", navy.isInReach(2, 9, 9), true);
        CHECK.due("bearing 7, direction 6", navy.isInReach(2, 0, 0), true);
        CHECK.due("bearing 3, direction 4", navy.isInReach(1, 4, 5), true);
        CHECK.due("bearing 3, direction 5", navy.isInReach(1, 2, 5), false);
        CHECK.due("bearing 3, direction 2", navy.isInReach(1, 6, 7), true);
        for (int wrong : NO_COORDINATES) {
            CHECK.dueThrow("x " + wrong, Check.ARGUMENT, () -> navy.isInReach(0, wrong, 0));
            CHECK.dueThrow("y " + wrong, Check.ARGUMENT, () -> navy.isInReach(0, 0, wrong));
        }
        for (int none : NO_SPOONS) {
            CHECK.dueThrow("spoon " + none, Check.INDEX, () -> navy.isInReach(none, 10, 0));
        }
        SpoonNavy sunk = Games.withSunkSpoon();
        CHECK.due("sunk", sunk.isInReach(1, 2, 3), false);
        CHECK.dueThrow("sunk, x 10", Check.ARGUMENT, () -> sunk.isInReach(1, 10, 3));
        SpoonNavy shooting = Games.started(Games.spoon(0, 4, 4, 0, 1), Games.spoon(1, 9, 9, 0, 9));
        CHECK.due("with a cube", shooting.isInReach(0, 4, 5), true);
        shooting.fire(0, 4, 5);
        CHECK.due("without cubes", shooting.isInReach(0, 4, 5), false);
    }

    private static void targetCounts() {
        SpoonNavy navy = Games.started(Games.spoon(0, 4, 4, 0, 3), Games.spoon(0, 4, 5, 0, 1),
                Games.spoon(1, 4, 6, 4, 9), Games.spoon(1, 7, 7, 4, 9), Games.spoon(1, 4, 8, 4, 9),
                Games.spoon(1, 4, 3, 2, 9), Games.spoon(1, 3, 6, 2, 1));
        int[] counts = {3, 2, 2, 2, 2, 0, 1};
        due(navy, counts);
        navy.fire(0, 4, 6);
        due(navy, new int[] {2, 2, 2, 2, 2, 0, 1});
        navy.load(0, 7);
        due(navy, new int[] {4, 2, 2, 2, 2, 0, 1});
        navy.fire(0, 4, 6);
        due(navy, new int[] {3, 1, 0, 2, 2, 0, 1});
        due(Games.prepared(Games.spoon(0, 4, 4, 5, 9), Games.spoon(1, 0, 0, 1, 5), Games.spoon(1, 4, 0, 1, 1),
                Games.spoon(1, 0, 4, 1, 4)), new int[] {3, 1, 0, 1});
        due(Games.prepared(Games.spoon(1, 5, 5, 1, 4), Games.spoon(0, 9, 9, 5, 4), Games.spoon(0, 5, 9, 5, 3),
                Games.spoon(0, 9, 5, 5, 3)), new int[] {3, 1, 0, 0});
        SpoonNavy wrong = Games.withSunkSpoon();
        CHECK.promise(33, "targetCount");
        CHECK.due("sunk", wrong.targetCount(1), 0);
        for (int none : NO_SPOONS) {
            CHECK.dueThrow("spoon " + none, Check.INDEX, () -> wrong.targetCount(none));
        }
        CHECK.promise(34, "targetCountByCells");
        CHECK.due("sunk", wrong.targetCountByCells(1), 0);
        for (int none : NO_SPOONS) {
            CHECK.dueThrow("spoon " + none, Check.INDEX, () -> wrong.targetCountByCells(none));
        }
    }

    private static void due(SpoonNavy navy, int[] counts) {
        for (int spoon = 0; spoon < counts.length; spoon++) {
            CHECK.promise(33, "targetCount");
            CHECK.due("spoon " + spoon, navy.targetCount(spoon), counts[spoon]);
            CHECK.promise(34, "targetCountByCells");
            CHECK.due("spoon " + spoon, navy.targetCountByCells(spoon), counts[spoon]);
        }
    }

    private static void cellsAhead() {
        CHECK.promise(35, "cellsAhead");
        SpoonNavy navy = Games.withSunkSpoon();
        CHECK.due("to the edge over a sunk spoon's cell", navy.cellsAhead(0), 7);
        CHECK.due("all the tray", navy.cellsAhead(2), 9);
        CHECK.dueThrow("sunk", Check.NO_ELEMENT, () -> navy.cellsAhead(1));
        for (int none : NO_SPOONS) {
            CHECK.dueThrow("spoon " + none, Check.INDEX, () -> navy.cellsAhead(none));
        }
        SpoonNavy other = Games.prepared(Games.spoon(0, 4, 4, 1, 3), Games.spoon(0, 7, 7, 5, 1),
                Games.spoon(1, 8, 8, 5, 9), Games.spoon(1, 0, 0, 6, 9), Games.spoon(1, 9, 0, 4, 9));
        CHECK.due("up to a spoon", other.cellsAhead(0), 2);
        CHECK.due("back", other.cellsAhead(1), 2);
        CHECK.due("next to a spoon", other.cellsAhead(2), 0);
        CHECK.due("edge in x", other.cellsAhead(3), 0);
        CHECK.due("edge in y", other.cellsAhead(4), 0);
    }

    private static void potOf() {
        CHECK.promise(36, "potOf");
        SpoonNavy navy = Games.withSunkSpoon();
        CHECK.due("initially", navy.potOf(0), 20);
        navy.load(0, 4);
        CHECK.due("after loading", navy.potOf(0), 16);
        CHECK.due("the other", navy.potOf(1), 20);
        for (int none : NO_FLEETS) {
            CHECK.dueThrow("fleet " + none, Check.INDEX, () -> navy.potOf(none));
        }
    }

    private static void fleetCubes() {
        SpoonNavy navy = Games.started(Games.spoon(0, 2, 2, 0, 5), Games.spoon(1, 2, 4, 4, 3),
                Games.spoon(0, 5, 5, 0, 2), Games.spoon(1, 9, 9, 4, 6));
        dueCubes(navy, "added", 7, 9);
        navy.load(2, 7);
        dueCubes(navy, "loaded", 14, 9);
        navy.sail(2, 1, true);
        dueCubes(navy, "sailed secretly", 13, 9);
        navy.fire(0, 2, 4);
        dueCubes(navy, "fired and hit", 12, 9);
        navy.endTurn();
        navy.load(3, 1);
        navy.fire(1, 2, 2);
        navy.sail(3, 1, false);
        dueCubes(navy, "the other fleet", 12, 9);
        navy.endTurn();
        navy.fire(0, 2, 4);
        dueCubes(navy, "sunk", 11, 7);
        CHECK.promise(37, "fleetCubes");
        for (int none : NO_FLEETS) {
            CHECK.dueThrow("fleet " + none, Check.INDEX, () -> navy.fleetCubes(none));
        }
        CHECK.promise(38, "fleetCubesByAccount");
        for (int none : NO_FLEETS) {
            CHECK.dueThrow("fleet " + none, Check.INDEX, () -> navy.fleetCubesByAccount(none));
        }
    }

    private static void dueCubes(SpoonNavy navy, String when, int first, int second) {
        CHECK.promise(37, "fleetCubes");
        CHECK.due(when + ", fleet 0", navy.fleetCubes(0), first);
        CHECK.due(when + ", fleet 1", navy.fleetCubes(1), second);
        CHECK.promise(38, "fleetCubesByAccount");
        CHECK.due(when + ", fleet 0", navy.fleetCubesByAccount(0), first);
        CHECK.due(when + ", fleet 1", navy.fleetCubesByAccount(1), second);
    }

    private static void totals() {
        SpoonNavy navy = Games.started(Games.spoon(0, 2, 2, 0, 5), Games.spoon(1, 2, 4, 4, 3),
                Games.spoon(0, 5, 5, 0, 2), Games.spoon(1, 9, 9, 4, 6));
        dueTotals(navy, "at first", 0, 0, 0, 0);
        navy.fire(0, 2, 3);
        dueTotals(navy, "a shot at nothing", 1, 0, 0, 0);
        navy.fire(0, 2, 4);
        dueTotals(navy, "a hit", 2, 1, 0, 0);
        navy.sail(2, 3, false);
        dueTotals(navy, "openly sailed", 2, 1, 3, 0);
        navy.endTurn();
        navy.sail(3, 2, true);
        dueTotals(navy, "secretly sailed", 2, 1, 5, 1);
        navy.turnTo(1, 5);
        CHECK.dueRefusal("out of reach", navy, 5, () -> navy.fire(1, 2, 6));
        navy.sail(1, 3, true);
        dueTotals(navy, "stopped early", 2, 1, 7, 2);
        navy.endTurn();
        navy.turnTo(0, 5);
        navy.fire(0, 0, 2);
        dueTotals(navy, "a hit again", 3, 2, 7, 2);
    }

    private static void dueTotals(SpoonNavy navy, String when, int shots, int hits, int cells, int secrets) {
        CHECK.promise(39, "shotCount");
        CHECK.due(when, navy.shotCount(), shots);
        CHECK.promise(40, "hitCount");
        CHECK.due(when, navy.hitCount(), hits);
        CHECK.promise(41, "cellsSailed");
        CHECK.due(when, navy.cellsSailed(), cells);
        CHECK.promise(42, "secretCount");
        CHECK.due(when, navy.secretCount(), secrets);
    }
}
