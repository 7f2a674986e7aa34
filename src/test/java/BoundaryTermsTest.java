/** "Terms" from the tray to the reach: each sentence that names a boundary has a test of its own. */
public final class BoundaryTermsTest {

    private static final Check CHECK = new Check();

    public static void main(String[] args) {
        cellsOfTheTray();
        distance();
        circleOfDirections();
        oneCell();
        directionsAlongX();
        directionsAlongY();
        slantingDirections();
        signsOfTheDifferences();
        sixSpoons();
        numbersOfSpoons();
        hullAndCubes();
        pots();
        sunkSpoons();
        goingOn();
        finished();
        threeActions();
        eachTakesOneAction();
        reachByDistance();
        reachByDirection();
        CHECK.finish();
    }

    // ---- the tray and the directions

    private static void cellsOfTheTray() {
        CHECK.sentence("Terms", "The tray consists of cells with the coordinates x and y from 0 to 9.");
        SpoonNavy navy = new SpoonNavy();
        int[] corners = {0, 9};
        for (int x : corners) {
            for (int y : corners) {
                int spoon = navy.addSpoon(0, x, y, 0, 1);
                CHECK.due("corner " + x + ", " + y, navy.spoonAt(x, y), spoon);
            }
        }
        CHECK.dueThrowOutside("x", 0, 9, Check.ARGUMENT, x -> navy.addSpoon(0, x, 5, 0, 1));
        CHECK.dueThrowOutside("y", 0, 9, Check.ARGUMENT, y -> navy.addSpoon(0, 5, y, 0, 1));
    }

    private static void distance() {
        CHECK.sentence("Terms", "The distance of two cells is the greater one of the absolute differences of their"
                + " x and y coordinates.");
        dueDistance(2, 3, 7, 5, 5);
        dueDistance(2, 3, 4, 9, 6);
        dueDistance(2, 3, 5, 6, 3);
        dueDistance(2, 3, 2, 4, 1);
        dueDistance(2, 3, 3, 3, 1);
        dueDistance(0, 0, 9, 9, 9);
        dueDistance(0, 9, 9, 0, 9);
        dueDistance(0, 0, 9, 8, 9);
        dueDistance(9, 0, 8, 9, 9);
    }

    private static void dueDistance(int x, int y, int otherX, int otherY, int cells) {
        SpoonNavy navy = Games.prepared(Games.spoon(0, x, y, 0, 1), Games.spoon(1, otherX, otherY, 0, 1));
        CHECK.due(x + ", " + y + " to " + otherX + ", " + otherY, navy.distance(0, 1), cells);
        CHECK.due(otherX + ", " + otherY + " to " + x + ", " + y, navy.distance(1, 0), cells);
    }

    private static void circleOfDirections() {
        CHECK.sentence("Terms", "There are 8 directions, in a circle in which 0 follows 7");
        SpoonNavy navy = Games.started(Games.spoon(0, 4, 4, 7, 2), Games.spoon(1, 9, 9, 4, 3));
        CHECK.due("bearing 7 reaches direction 0", navy.isInReach(0, 4, 5), true);
        CHECK.due("bearing 7 does not reach direction 1", navy.isInReach(0, 5, 5), false);
        CHECK.due("from 7 to 0", navy.turnTo(0, 0), 1);
        CHECK.due("bearing 0 reaches direction 7", navy.isInReach(0, 3, 5), true);
        CHECK.due("bearing 0 does not reach direction 6", navy.isInReach(0, 3, 4), false);
        CHECK.due("from 0 to 7", navy.turnTo(0, 7), 1);
        CHECK.due("from 7 to 1", navy.turnTo(0, 1), 2);
    }

    private static void oneCell() {
        CHECK.sentence("Terms", "Going one cell in a direction changes these coordinates by 1.");
        for (int direction = 0; direction < 8; direction++) {
            SpoonNavy navy = Games.started(Games.spoon(0, 5, 5, direction, 1), Games.spoon(1, 0, 2, 4, 3));
            navy.sail(0, 1, false);
            CHECK.due("x in " + direction, navy.xOf(0), 5 + Games.stepX(direction));
            CHECK.due("y in " + direction, navy.yOf(0), 5 + Games.stepY(direction));
        }
    }

    private static void directionsAlongX() {
        CHECK.sentence("Terms", "If a is at least twice b, the other cell lies in direction 2 or 6.");
        dueDirection(4, 2, 2);
        dueDirection(4, -2, 2);
        dueDirection(-4, 2, 6);
        dueDirection(-4, -2, 6);
        dueDirection(2, 1, 2);
        dueDirection(-2, -1, 6);
        dueDirection(1, 0, 2);
        dueDirection(-1, 0, 6);
        dueDirection(3, 2, 1);
        dueDirection(-3, -2, 5);
    }

    private static void directionsAlongY() {
        CHECK.sentence("Terms", "Otherwise, if b is at least twice a, it lies in direction 0 or 4.");
        dueDirection(2, 4, 0);
        dueDirection(-2, 4, 0);
        dueDirection(2, -4, 4);
        dueDirection(-2, -4, 4);
        dueDirection(1, 2, 0);
        dueDirection(-1, -2, 4);
        dueDirection(0, 1, 0);
        dueDirection(0, -1, 4);
        dueDirection(2, 3, 1);
        dueDirection(-2, -3, 5);
    }

    private static void slantingDirections() {
        CHECK.sentence("Terms", "Otherwise it lies in direction 1, 3, 5 or 7.");
        dueDirection(1, 1, 1);
        dueDirection(3, 2, 1);
        dueDirection(2, 3, 1);
        dueDirection(3, -2, 3);
        dueDirection(2, -3, 3);
        dueDirection(-3, -2, 5);
        dueDirection(-2, -3, 5);
        dueDirection(-3, 2, 7);
        dueDirection(-2, 3, 7);
        dueDirection(-4, -4, 5);
    }

    private static void signsOfTheDifferences() {
        CHECK.sentence("Terms", "The signs of the differences tell which of them it is.");
        for (int direction = 0; direction < 8; direction++) {
            for (int cells = 1; cells <= 4; cells += 3) {
                dueDirection(cells * Games.stepX(direction), cells * Games.stepY(direction), direction);
            }
        }
    }

    private static void dueDirection(int differenceX, int differenceY, int direction) {
        SpoonNavy navy = Games.prepared(Games.spoon(0, 5, 5, 0, 1));
        int got = navy.directionTo(0, 5 + differenceX, 5 + differenceY);
        CHECK.due("by " + differenceX + ", " + differenceY, got, direction);
    }

    // ---- the fleets

    private static void sixSpoons() {
        CHECK.sentence("Terms", "There are the fleets 0 and 1, each with at most 6 spoons.");
        for (int fleet = 0; fleet < 2; fleet++) {
            int full = fleet;
            SpoonNavy navy = new SpoonNavy();
            for (int x = 0; x < 6; x++) {
                CHECK.due("spoon " + x, navy.addSpoon(full, x, 0, 0, 1), x);
            }
            CHECK.dueThrow("the seventh", Check.STATE, () -> navy.addSpoon(full, 6, 0, 0, 1));
            CHECK.due("the first of the other", navy.addSpoon(1 - full, 6, 0, 0, 1), 6);
        }
        SpoonNavy navy = new SpoonNavy();
        CHECK.dueThrowOutside("fleet", 0, 1, Check.INDEX, fleet -> navy.addSpoon(fleet, 0, 0, 0, 1));
    }

    private static void numbersOfSpoons() {
        CHECK.sentence("Terms", "All spoons are numbered together from 0 in the order in which they were added.");
        SpoonNavy navy = Games.twelve();
        for (int spoon = 0; spoon < 12; spoon++) {
            CHECK.due("fleet of " + spoon, navy.fleetOf(spoon), spoon % 2);
            CHECK.due("y of " + spoon, navy.yOf(spoon), spoon / 10);
            CHECK.due("x of " + spoon, navy.xOf(spoon), spoon % 10);
        }
    }

    private static void hullAndCubes() {
        CHECK.sentence("Terms", "A spoon has a bearing, which is a direction, a hull of 2 when it is added, and from"
                + " 0 to 9 cubes.");
        SpoonNavy navy = Games.started(Games.spoon(0, 0, 0, 7, 1), Games.spoon(1, 9, 9, 4, 9));
        CHECK.due("bearing", navy.bearingOf(0), 7);
        CHECK.due("hull", navy.hullOf(0), 2);
        navy.fire(0, 0, 1);
        CHECK.due("no cubes are left", navy.cubesOf(0), 0);
        CHECK.due("with 0 cubes it still takes 9", navy.load(0, 9), 9);
        CHECK.dueRefusal("a tenth", navy, 6, () -> navy.load(0, 1));
        CHECK.due("9 cubes", navy.cubesOf(0), 9);
    }

    private static void pots() {
        CHECK.sentence("Terms", "Each fleet has a pot, initially with 20 cubes.");
        SpoonNavy navy = Games.prepared(Games.spoon(0, 0, 0, 0, 9), Games.spoon(1, 9, 9, 4, 1),
                Games.spoon(1, 8, 9, 4, 2), Games.spoon(1, 7, 9, 4, 1));
        CHECK.due("fleet 0", navy.potOf(0), 20);
        CHECK.due("fleet 1", navy.potOf(1), 20);
        navy.start();
        navy.endTurn();
        navy.load(1, 8);
        navy.load(2, 7);
        CHECK.due("fleet 0", navy.potOf(0), 20);
        CHECK.due("fleet 1", navy.potOf(1), 5);
        CHECK.due("all of the pot", navy.load(3, 5), 6);
        CHECK.due("empty", navy.potOf(1), 0);
    }

    private static void sunkSpoons() {
        CHECK.sentence("Terms", "A spoon is sunk if its hull is 0; its cubes are lost then, and it is in no cell.");
        SpoonNavy navy = Games.started(Games.spoon(0, 2, 2, 0, 9), Games.spoon(1, 2, 4, 4, 3),
                Games.spoon(1, 9, 9, 4, 6));
        navy.fire(0, 2, 4);
        CHECK.due("hull 1", navy.isSunk(1), false);
        CHECK.due("cubes with hull 1", navy.cubesOf(1), 3);
        CHECK.due("in its cell with hull 1", navy.spoonAt(2, 4), 1);
        navy.fire(0, 2, 4);
        CHECK.due("hull 0", navy.isSunk(1), true);
        CHECK.due("cubes", navy.cubesOf(1), 0);
        CHECK.due("cubes of the fleet", navy.fleetCubes(1), 6);
        CHECK.due("they do not go to the pot", navy.potOf(1), 20);
        CHECK.dueThrow("in no cell", Check.NO_ELEMENT, () -> navy.spoonAt(2, 4));
        CHECK.due("nothing is hit there", navy.fire(0, 2, 4), 0);
        navy.endTurn();
        navy.endTurn();
        CHECK.due("another one can sail there", navy.sail(0, 2, false), 2);
        CHECK.due("and is in the cell", navy.spoonAt(2, 4), 0);
    }

    // ---- the game

    private static void goingOn() {
        CHECK.sentence("Terms", "The game is going on if it has been started and is not finished.");
        SpoonNavy navy = Games.prepared(Games.spoon(0, 2, 2, 0, 5), Games.spoon(1, 2, 4, 4, 3));
        CHECK.dueThrow("not started", Check.STATE, () -> navy.endTurn());
        navy.start();
        CHECK.due("started", navy.endTurn(), 1);
        navy.endTurn();
        navy.fire(0, 2, 4);
        CHECK.due("a hull is left", navy.activeFleet(), 0);
        navy.fire(0, 2, 4);
        CHECK.dueThrow("finished", Check.STATE, () -> navy.endTurn());
        CHECK.dueThrow("finished, turning", Check.STATE, () -> navy.turnTo(0, 1));
    }

    private static void finished() {
        CHECK.sentence("Terms", "It is finished as soon as all spoons of a fleet are sunk.");
        SpoonNavy navy = Games.started(Games.spoon(0, 0, 2, 0, 9), Games.spoon(1, 0, 4, 4, 1),
                Games.spoon(1, 0, 5, 4, 1));
        Games.run(navy, "fire 0 04;fire 0 04;fire 0 05;end;end");
        CHECK.due("hull 1 of the last", navy.isFinished(), false);
        navy.fire(0, 0, 5);
        CHECK.due("hull 0 of the last", navy.isFinished(), true);
        navy.undo();
        CHECK.due("undone", navy.isFinished(), false);
        CHECK.due("no spoons are no sunk ones", new SpoonNavy().isFinished(), false);
        SpoonNavy own = Games.started(Games.spoon(0, 2, 2, 0, 9), Games.spoon(0, 2, 4, 0, 9),
                Games.spoon(1, 9, 9, 0, 1));
        Games.run(own, "fire 0 24;fire 0 24");
        CHECK.due("one of the own is left", own.isFinished(), false);
    }

    private static void threeActions() {
        CHECK.sentence("Terms", "In each turn the active fleet has 3 actions.");
        SpoonNavy navy = Games.started(Games.spoon(0, 0, 0, 0, 9), Games.spoon(1, 9, 9, 4, 9));
        for (int turn = 0; turn < 4; turn++) {
            int spoon = turn % 2;
            for (int left = 3; left > 0; left--) {
                CHECK.due("left in turn " + turn, navy.actionsLeft(), left);
                navy.turnTo(spoon, left);
            }
            CHECK.due("none is left in turn " + turn, navy.actionsLeft(), 0);
            CHECK.dueRefusal("the fourth in turn " + turn, navy, 1, () -> navy.turnTo(spoon, 0));
            navy.endTurn();
        }
    }

    private static void eachTakesOneAction() {
        CHECK.sentence("Terms", "Turning, sailing, firing and loading each take one action.");
        SpoonNavy navy = Games.started(Games.spoon(0, 0, 0, 0, 5), Games.spoon(1, 9, 9, 4, 9));
        navy.turnTo(0, 0);
        CHECK.due("turning by no step", navy.actionsLeft(), 2);
        navy.sail(0, 3, false);
        CHECK.due("sailing 3 cells", navy.actionsLeft(), 1);
        navy.sail(0, 1, true);
        CHECK.due("sailing secretly", navy.actionsLeft(), 0);
        navy.endTurn();
        navy.endTurn();
        navy.fire(0, 0, 5);
        CHECK.due("firing at nothing", navy.actionsLeft(), 2);
        navy.load(0, 6);
        CHECK.due("loading 6 cubes", navy.actionsLeft(), 1);
        navy.turnTo(0, 4);
        CHECK.due("turning by 4 steps", navy.actionsLeft(), 0);
    }

    // ---- reach

    private static void reachByDistance() {
        CHECK.sentence("Terms", "A cell is in the reach of a spoon if its distance from the spoon is from 1 to the"
                + " number of cubes on the spoon");
        for (int cubes = 1; cubes <= 9; cubes++) {
            SpoonNavy navy = Games.prepared(Games.spoon(0, 0, 0, 0, cubes));
            for (int y = 0; y < 10; y++) {
                CHECK.due(cubes + " cubes, distance " + y, navy.isInReach(0, 0, y), y >= 1 && y <= cubes);
            }
        }
        SpoonNavy navy = Games.started(Games.spoon(0, 0, 0, 0, 1), Games.spoon(1, 9, 9, 4, 9));
        navy.fire(0, 0, 1);
        CHECK.due("no cubes, distance 1", navy.isInReach(0, 0, 1), false);
        CHECK.due("no cubes, distance 0", navy.isInReach(0, 0, 0), false);
        navy.load(0, 2);
        CHECK.due("a corner of distance 2", navy.isInReach(0, 2, 2), true);
        CHECK.due("beside the corner", navy.isInReach(0, 2, 3), false);
    }

    private static void reachByDirection() {
        CHECK.sentence("Terms", "and the direction in which it lies is at most 1 step away from the bearing of the"
                + " spoon in the circle.");
        for (int bearing = 0; bearing < 8; bearing++) {
            SpoonNavy navy = Games.prepared(Games.spoon(0, 5, 5, bearing, 3));
            for (int direction = 0; direction < 8; direction++) {
                int apart = Math.floorMod(direction - bearing, 8);
                boolean isAhead = apart == 0 || apart == 1 || apart == 7;
                int x = 5 + 3 * Games.stepX(direction);
                int y = 5 + 3 * Games.stepY(direction);
                CHECK.due("bearing " + bearing + ", direction " + direction, navy.isInReach(0, x, y), isAhead);
            }
        }
    }
}
