import java.util.function.Consumer;

/** "Terms": knowledge, shots and refusals; each sentence that names a boundary has a test of its own. */
public final class BoundaryKnowledgeTest {

    private static final Check CHECK = new Check();

    public static void main(String[] args) {
        knownFromTheFirst();
        knownInTheNewCell();
        knownWhereItWas();
        knownFromTwoCells();
        knownToTheOneThatSails();
        knownAtTheCornersOfTheDistance();
        allOfThemAreKnown();
        sunkSpoonsDoNotCount();
        knownByFiring();
        knownByBeingHit();
        shotsAtEitherFleet();
        hullByShots();
        noActionsLeft();
        noCubes();
        blockedByTheEdge();
        blockedBySpoons();
        wrongDistance();
        outOfReach();
        wrongLoad();
        firstReason();
        refusalsChangeNothing();
        CHECK.finish();
    }

    // ---- knowledge

    private static void knownFromTheFirst() {
        CHECK.sentence("Terms", "The other fleet knows each spoon in a cell.");
        SpoonNavy navy = Games.prepared(Games.spoon(0, 0, 9, 0, 1), Games.spoon(1, 9, 0, 4, 1));
        dueKnown(navy, 0, 0, 9);
        dueKnown(navy, 1, 9, 0);
    }

    private static void knownInTheNewCell() {
        CHECK.sentence("Terms", "When a spoon sails, the other fleet knows it in its new cell");
        SpoonNavy navy = Games.started(Games.spoon(0, 0, 0, 1, 9), Games.spoon(1, 9, 0, 0, 9));
        navy.sail(0, 3, false);
        dueKnown(navy, 0, 3, 3);
        navy.sail(0, 2, true);
        navy.sail(0, 1, false);
        dueKnown(navy, 0, 6, 6);
    }

    private static void knownWhereItWas() {
        CHECK.sentence("Terms", "if it sails secretly, the other fleet goes on to know it in the cell in which it knew"
                + " it before.");
        SpoonNavy navy = Games.started(Games.spoon(0, 0, 0, 1, 9), Games.spoon(1, 9, 0, 0, 9));
        navy.sail(0, 1, false);
        navy.sail(0, 2, true);
        navy.sail(0, 3, true);
        dueKnown(navy, 0, 1, 1);
        CHECK.due("own x", navy.xOf(0), 6);
        CHECK.due("own y", navy.yOf(0), 6);
        CHECK.due("hidden", navy.isHidden(0), true);
        navy.endTurn();
        navy.endTurn();
        navy.turnTo(0, 5);
        navy.load(0, 1);
        dueKnown(navy, 0, 1, 1);
        navy.sail(0, 3, true);
        Games.run(navy, "end;end;sneak 0 2");
        dueKnown(navy, 0, 1, 1);
        CHECK.due("back in that cell", navy.isHidden(0), false);
    }

    private static void knownFromTwoCells() {
        CHECK.sentence("Terms", "After each sailing, each spoon from which a spoon of the other fleet is at most at the"
                + " distance 2 is known in its cell");
        for (int cells = 1; cells <= 3; cells++) {
            SpoonNavy navy = Games.started(Games.spoon(0, 0, 0, 2, 9), Games.spoon(1, 5, 0, 6, 9));
            navy.sail(0, cells, true);
            CHECK.due("hidden at the distance " + (5 - cells), navy.isHidden(0), cells < 3);
            dueKnown(navy, 0, cells < 3 ? 0 : 3, 0);
        }
        SpoonNavy near = Games.started(Games.spoon(0, 0, 0, 2, 9), Games.spoon(1, 2, 0, 6, 9));
        near.sail(0, 1, true);
        dueKnown(near, 0, 1, 0);
        SpoonNavy away = Games.started(Games.spoon(0, 2, 0, 6, 9), Games.spoon(1, 3, 0, 6, 9));
        away.sail(0, 1, true);
        dueKnown(away, 0, 1, 0);
        away.sail(0, 1, true);
        dueKnown(away, 0, 1, 0);
    }

    private static void knownToTheOneThatSails() {
        CHECK.sentence("Terms, the other fleet sails", "After each sailing, each spoon from which a spoon of the other"
                + " fleet is at most at the distance 2 is known in its cell");
        for (int secret = 0; secret < 2; secret++) {
            SpoonNavy navy = Games.started(Games.spoon(0, 0, 0, 0, 9), Games.spoon(1, 8, 3, 6, 9));
            navy.sail(0, 3, true);
            navy.endTurn();
            navy.sail(1, 3, secret == 1);
            CHECK.due("hidden at the distance 5", navy.isHidden(0), true);
            navy.sail(1, 2, secret == 1);
            CHECK.due("hidden at the distance 3", navy.isHidden(0), true);
            dueKnown(navy, 0, 0, 0);
            navy.sail(1, 1, secret == 1);
            CHECK.due("hidden at the distance 2", navy.isHidden(0), false);
            dueKnown(navy, 0, 0, 3);
            dueKnown(navy, 1, 2, 3);
        }
    }

    private static void knownAtTheCornersOfTheDistance() {
        CHECK.sentence("Terms, x and y differ",
                "After each sailing, each spoon from which a spoon of the other fleet is"
                + " at most at the distance 2 is known in its cell");
        int[][] differences = {{2, 2}, {-2, 2}, {2, -2}, {-2, -2}, {1, 2}, {2, 1}, {0, 2}, {2, 0}, {1, 1},
            {3, 2}, {2, 3}, {-3, 2}, {2, -3}, {3, 0}, {0, -3}, {3, 3}};
        for (int[] difference : differences) {
            int x = 5 + difference[0];
            int y = 5 + difference[1];
            boolean isNear = Math.max(Math.abs(difference[0]), Math.abs(difference[1])) <= 2;
            SpoonNavy navy = Games.started(Games.spoon(0, 4, 4, 1, 9), Games.spoon(1, x, y, 0, 9));
            navy.sail(0, 1, true);
            CHECK.due("hidden by " + difference[0] + ", " + difference[1], navy.isHidden(0), !isNear);
        }
    }

    private static void allOfThemAreKnown() {
        CHECK.sentence("Terms, several at once", "each spoon from which a spoon of the other fleet is at most at the"
                + " distance 2");
        SpoonNavy navy = Games.started(Games.spoon(0, 0, 0, 0, 9), Games.spoon(0, 4, 0, 0, 9),
                Games.spoon(0, 9, 0, 0, 9), Games.spoon(1, 2, 8, 4, 9));
        Games.run(navy, "sneak 0 2;sneak 1 2;sneak 2 2;end;sail 3 3");
        CHECK.due("spoon 0 at the distance 3", navy.isHidden(0), true);
        CHECK.due("spoon 1 at the distance 3", navy.isHidden(1), true);
        navy.sail(3, 1, true);
        CHECK.due("spoon 0 at the distance 2", navy.isHidden(0), false);
        CHECK.due("spoon 1 at the distance 2", navy.isHidden(1), false);
        CHECK.due("spoon 2 farther off", navy.isHidden(2), true);
        CHECK.due("the one that sails", navy.isHidden(3), false);
        SpoonNavy own = Games.started(Games.spoon(0, 0, 0, 2, 9), Games.spoon(0, 0, 1, 2, 9),
                Games.spoon(1, 9, 9, 0, 9));
        own.sail(0, 1, true);
        own.sail(1, 1, false);
        CHECK.due("spoons of the own fleet tell nothing", own.isHidden(0), true);
    }

    private static void sunkSpoonsDoNotCount() {
        CHECK.sentence("Terms", "sunk spoons do not count.");
        SpoonNavy navy = Games.withSunkSpoon();
        navy.sail(0, 1, true);
        CHECK.due("hidden beside the cell of a sunk one", navy.isHidden(0), true);
        dueKnown(navy, 0, 2, 2);
        Games.run(navy, "end;end;sneak 0 1");
        CHECK.due("hidden in the cell of a sunk one", navy.isHidden(0), true);
        SpoonNavy twin = Games.started(Games.spoon(0, 2, 2, 0, 5), Games.spoon(1, 2, 4, 4, 3),
                Games.spoon(1, 9, 9, 4, 6));
        twin.fire(0, 2, 4);
        twin.sail(0, 1, true);
        CHECK.due("hidden beside one that was hit", twin.isHidden(0), false);
    }

    private static void knownByFiring() {
        CHECK.sentence("Terms", "A spoon that fires is known in its cell");
        SpoonNavy navy = Games.started(Games.spoon(0, 0, 0, 0, 9), Games.spoon(0, 9, 0, 0, 9),
                Games.spoon(1, 4, 9, 4, 9));
        navy.sail(0, 3, true);
        navy.sail(1, 2, true);
        CHECK.dueRefusal("no shot", navy, 5, () -> navy.fire(0, 3, 3));
        CHECK.due("a refused shot tells nothing", navy.isHidden(0), true);
        navy.fire(0, 0, 4);
        dueKnown(navy, 0, 0, 3);
        CHECK.due("the other one stays hidden", navy.isHidden(1), true);
    }

    private static void knownByBeingHit() {
        CHECK.sentence("Terms", "and so is a spoon that is hit.");
        SpoonNavy navy = Games.started(Games.spoon(0, 0, 0, 0, 9), Games.spoon(0, 4, 0, 6, 9),
                Games.spoon(1, 0, 9, 2, 9), Games.spoon(1, 0, 8, 4, 9));
        Games.run(navy, "sneak 0 1;end;sneak 3 2;turn 2 3;sneak 2 3;end");
        CHECK.due("the spoon 3 is hidden", navy.isHidden(3), true);
        navy.fire(0, 0, 6);
        dueKnown(navy, 3, 0, 6);
        CHECK.due("the spoon 2 is hidden", navy.isHidden(2), true);
        SpoonNavy own = Games.started(Games.spoon(0, 0, 0, 0, 9), Games.spoon(0, 4, 0, 6, 9),
                Games.spoon(1, 9, 9, 2, 9));
        own.sail(0, 1, true);
        CHECK.due("the own one is hidden", own.isHidden(0), true);
        CHECK.due("the own one is hit", own.fire(1, 0, 1), 1);
        dueKnown(own, 0, 0, 1);
    }

    private static void dueKnown(SpoonNavy navy, int spoon, int x, int y) {
        CHECK.due("known x of " + spoon, navy.knownX(spoon), x);
        CHECK.due("known y of " + spoon, navy.knownY(spoon), y);
    }

    // ---- shots

    private static void shotsAtEitherFleet() {
        CHECK.sentence("Terms", "A shot hits the spoon in the cell, of whichever fleet it is.");
        SpoonNavy navy = Games.started(Games.spoon(0, 2, 2, 0, 9), Games.spoon(0, 2, 3, 0, 9),
                Games.spoon(1, 2, 4, 4, 9));
        CHECK.due("the other fleet's, behind another spoon", navy.fire(0, 2, 4), 1);
        CHECK.due("the own fleet's", navy.fire(0, 2, 3), 1);
        CHECK.due("the own fleet's again", navy.fire(0, 2, 3), 2);
        CHECK.due("floating", navy.floating(0), 1);
        CHECK.due("hits", navy.hitCount(), 3);
        navy.endTurn();
        CHECK.due("fleet 1 at fleet 0", navy.fire(2, 2, 2), 1);
    }

    private static void hullByShots() {
        CHECK.sentence("Terms", "The hull of the spoon decreases by 1.");
        SpoonNavy navy = Games.started(Games.spoon(0, 2, 2, 0, 9), Games.spoon(1, 2, 4, 4, 9),
                Games.spoon(1, 2, 5, 4, 9));
        CHECK.due("at first", navy.hullOf(1), 2);
        navy.fire(0, 2, 4);
        CHECK.due("after one hit", navy.hullOf(1), 1);
        navy.fire(0, 2, 4);
        CHECK.due("after two", navy.hullOf(1), 0);
        navy.fire(0, 2, 4);
        CHECK.due("it is not hit any more", navy.hullOf(1), 0);
        CHECK.due("the spoon behind it", navy.hullOf(2), 2);
        CHECK.due("the one that fires", navy.hullOf(0), 2);
    }

    // ---- refusals

    private static void noActionsLeft() {
        CHECK.sentence("Terms", "1 if the active fleet has no actions left");
        SpoonNavy navy = Games.started(Games.spoon(0, 0, 0, 0, 5), Games.spoon(1, 9, 9, 4, 9));
        navy.turnTo(0, 1);
        navy.turnTo(0, 1);
        CHECK.due("the third is not refused", navy.turnTo(0, 0), 1);
        CHECK.dueRefusal("turning", navy, 1, () -> navy.turnTo(0, 0));
        CHECK.dueRefusal("sailing", navy, 1, () -> navy.sail(0, 1, false));
        CHECK.dueRefusal("sailing secretly", navy, 1, () -> navy.sail(0, 1, true));
        CHECK.dueRefusal("firing", navy, 1, () -> navy.fire(0, 0, 1));
        CHECK.dueRefusal("loading", navy, 1, () -> navy.load(0, 1));
        CHECK.dueThrow("the other fleet's spoon", Check.STATE, () -> navy.turnTo(1, 0));
        navy.endTurn();
        CHECK.due("the other fleet has some", navy.turnTo(1, 0), 4);
    }

    private static void noCubes() {
        CHECK.sentence("Terms", "2 if the spoon sails secretly or fires and has no cubes");
        SpoonNavy navy = Games.started(Games.spoon(0, 0, 0, 0, 1), Games.spoon(0, 5, 0, 0, 1),
                Games.spoon(1, 9, 9, 4, 9));
        CHECK.due("firing with the last cube", navy.fire(0, 0, 1), 0);
        CHECK.due("sailing secretly with the last cube", navy.sail(1, 1, true), 1);
        CHECK.dueRefusal("sailing secretly", navy, 2, () -> navy.sail(0, 1, true));
        CHECK.dueRefusal("firing", navy, 2, () -> navy.fire(1, 5, 2));
        CHECK.due("sailing openly", navy.sail(0, 1, false), 1);
        navy.endTurn();
        navy.endTurn();
        CHECK.due("turning", navy.turnTo(0, 1), 1);
        CHECK.due("loading", navy.load(0, 1), 1);
        CHECK.due("sailing secretly with a new cube", navy.sail(0, 1, true), 1);
    }

    private static void blockedByTheEdge() {
        CHECK.sentence("Terms", "3 if it sails and the first cell ahead is not on the tray");
        for (int direction = 0; direction < 8; direction++) {
            int x = edgeTowards(Games.stepX(direction));
            int y = edgeTowards(Games.stepY(direction));
            SpoonNavy navy = Games.started(Games.spoon(0, x, y, direction, 3), Games.spoon(1, 2, 3, 0, 1));
            String edge = "edge in direction " + direction;
            CHECK.dueRefusal(edge, navy, 3, () -> navy.sail(0, 1, false));
            CHECK.dueRefusal(edge, navy, 3, () -> navy.sail(0, 3, true));
            CHECK.due(edge + ", the other way", navy.turnTo(0, (direction + 4) % 8), 4);
            CHECK.due(edge + ", the other way", navy.sail(0, 1, false), 1);
            navy.turnTo(0, direction);
            Games.run(navy, "end;end");
            CHECK.due(edge + ", from one cell before it", navy.sail(0, 3, false), 1);
        }
    }

    private static int edgeTowards(int step) {
        return step == 0 ? 5 : step > 0 ? 9 : 0;
    }

    private static void blockedBySpoons() {
        CHECK.sentence("Terms", "or a spoon is in it");
        SpoonNavy navy = Games.started(Games.spoon(0, 2, 2, 0, 9), Games.spoon(0, 2, 3, 0, 9),
                Games.spoon(1, 2, 4, 4, 9), Games.spoon(1, 9, 9, 4, 9));
        CHECK.dueRefusal("an own one", navy, 3, () -> navy.sail(0, 1, false));
        CHECK.dueRefusal("the other fleet's", navy, 3, () -> navy.sail(1, 3, true));
        navy.fire(0, 2, 4);
        CHECK.dueRefusal("one that was hit", navy, 3, () -> navy.sail(1, 1, false));
        navy.fire(0, 2, 4);
        CHECK.due("a sunk one is in no cell", navy.sail(1, 1, false), 1);
        Games.run(navy, "end;end");
        CHECK.due("a cell that a spoon has left", navy.sail(0, 1, false), 1);
    }

    private static void wrongDistance() {
        CHECK.sentence("Terms", "4 if it fires and the distance of the cell is 0 or greater than the number of cubes"
                + " on it");
        SpoonNavy navy = Games.started(Games.spoon(0, 3, 3, 0, 3), Games.spoon(1, 9, 9, 4, 9));
        CHECK.dueRefusal("distance 0", navy, 4, () -> navy.fire(0, 3, 3));
        CHECK.dueRefusal("distance 4", navy, 4, () -> navy.fire(0, 3, 7));
        CHECK.dueRefusal("distance 4 in x and y", navy, 4, () -> navy.fire(0, 7, 7));
        CHECK.dueRefusal("distance 6", navy, 4, () -> navy.fire(0, 3, 9));
        CHECK.due("distance 3", navy.fire(0, 3, 6), 0);
        CHECK.dueRefusal("distance 3 with 2 cubes", navy, 4, () -> navy.fire(0, 3, 6));
        CHECK.due("distance 1", navy.fire(0, 3, 4), 0);
        CHECK.due("distance 1 with 1 cube", navy.fire(0, 3, 4), 0);
        SpoonNavy far = Games.started(Games.spoon(0, 0, 0, 0, 9), Games.spoon(1, 9, 9, 4, 9));
        CHECK.due("distance 9", far.fire(0, 0, 9), 0);
        CHECK.dueRefusal("distance 9 with 8 cubes", far, 4, () -> far.fire(0, 0, 9));
    }

    private static void outOfReach() {
        CHECK.sentence("Terms", "5 if it fires and the cell is not in its reach for another reason");
        for (int direction = 0; direction < 8; direction++) {
            SpoonNavy navy = Games.started(Games.spoon(0, 5, 5, 7, 2), Games.spoon(1, 0, 2, 4, 9));
            int x = 5 + 2 * Games.stepX(direction);
            int y = 5 + 2 * Games.stepY(direction);
            if (direction == 6 || direction == 7 || direction == 0) {
                CHECK.due("bearing 7, direction " + direction, navy.fire(0, x, y), 0);
            } else {
                CHECK.dueRefusal("bearing 7, direction " + direction, navy, 5, () -> navy.fire(0, x, y));
            }
        }
    }

    private static void wrongLoad() {
        CHECK.sentence("Terms", "6 if cubes are loaded and the pot has fewer, or the spoon would have more than 9.");
        SpoonNavy navy = Games.started(Games.spoon(0, 0, 0, 0, 1), Games.spoon(0, 1, 0, 0, 2),
                Games.spoon(0, 2, 0, 0, 1), Games.spoon(1, 9, 9, 4, 3));
        CHECK.dueRefusal("to 10", navy, 6, () -> navy.load(0, 9));
        CHECK.due("to 9", navy.load(0, 8), 9);
        CHECK.dueRefusal("1 to 10", navy, 6, () -> navy.load(0, 1));
        CHECK.due("to 9", navy.load(1, 7), 9);
        CHECK.dueRefusal("6 of a pot of 5", navy, 6, () -> navy.load(2, 6));
        CHECK.due("5 of a pot of 5", navy.load(2, 5), 6);
        navy.endTurn();
        navy.endTurn();
        CHECK.dueRefusal("1 of an empty pot", navy, 6, () -> navy.load(2, 1));
        navy.endTurn();
        CHECK.due("the other fleet's pot has some", navy.load(3, 6), 9);
    }

    private static void firstReason() {
        CHECK.sentence("Terms", "An action is refused for the first of these reasons that applies");
        SpoonNavy navy = Games.started(Games.spoon(0, 0, 9, 0, 1), Games.spoon(0, 9, 9, 0, 2),
                Games.spoon(1, 5, 0, 4, 9));
        navy.turnTo(0, 2);
        navy.fire(0, 1, 9);
        navy.turnTo(0, 0);
        CHECK.dueRefusal("1 before 2, sailing", navy, 1, () -> navy.sail(0, 1, true));
        CHECK.dueRefusal("1 before 2, firing", navy, 1, () -> navy.fire(0, 0, 8));
        CHECK.dueRefusal("1 before 3", navy, 1, () -> navy.sail(1, 1, false));
        CHECK.dueRefusal("1 before 4", navy, 1, () -> navy.fire(1, 9, 9));
        CHECK.dueRefusal("1 before 5", navy, 1, () -> navy.fire(1, 9, 8));
        CHECK.dueRefusal("1 before 6", navy, 1, () -> navy.load(1, 9));
        Games.run(navy, "end;end");
        CHECK.dueRefusal("2 before 3", navy, 2, () -> navy.sail(0, 1, true));
        CHECK.dueRefusal("3 alone", navy, 3, () -> navy.sail(0, 1, false));
        CHECK.dueRefusal("2 before 4, distance 0", navy, 2, () -> navy.fire(0, 0, 9));
        CHECK.dueRefusal("2 before 4, far away", navy, 2, () -> navy.fire(0, 0, 0));
        CHECK.dueRefusal("2 before 5", navy, 2, () -> navy.fire(0, 0, 8));
        CHECK.dueRefusal("4 before 5", navy, 4, () -> navy.fire(1, 9, 6));
        CHECK.dueRefusal("5 alone", navy, 5, () -> navy.fire(1, 9, 7));
    }

    private static void refusalsChangeNothing() {
        CHECK.sentence("Terms", "A refused action changes nothing but the reason that is kept.");
        String threeActions = "fire 1 90;turn 0 0;turn 0 0";
        dueNoTrace(1, threeActions, navy -> navy.turnTo(0, 5));
        dueNoTrace(1, threeActions, navy -> navy.load(0, 1));
        String oneAction = "fire 1 90";
        dueNoTrace(2, oneAction, navy -> navy.sail(1, 1, true));
        dueNoTrace(2, oneAction, navy -> navy.fire(1, 9, 0));
        dueNoTrace(3, oneAction, navy -> navy.sail(0, 1, false));
        dueNoTrace(3, oneAction, navy -> navy.sail(0, 1, true));
        dueNoTrace(4, oneAction, navy -> navy.fire(0, 0, 9));
        dueNoTrace(4, oneAction, navy -> navy.fire(0, 0, 5));
        dueNoTrace(5, oneAction, navy -> navy.fire(0, 0, 8));
        dueNoTrace(6, oneAction, navy -> navy.load(0, 9));
    }

    private static void dueNoTrace(int reason, String before, Consumer<SpoonNavy> action) {
        SpoonNavy navy = Games.started(Games.spoon(0, 0, 9, 0, 2), Games.spoon(0, 8, 0, 2, 1),
                Games.spoon(1, 9, 9, 4, 9));
        Games.run(navy, before);
        CHECK.dueUnchanged("reason " + reason, navy, Check.UNSUPPORTED, () -> action.accept(navy));
        CHECK.due("reason", navy.refusalReason(), reason);
        CHECK.due("changes that can be undone", navy.undo(), 4);
    }
}
