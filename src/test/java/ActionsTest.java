/** Promises 11 to 15: turning, sailing, firing, loading, and the reasons of refusals. */
public final class ActionsTest {

    private static final Check CHECK = new Check();

    public static void main(String[] args) {
        turnTo();
        turnToWrongInputs();
        sail();
        sailInEachDirection();
        sailWrongInputs();
        knowledgeBySailing();
        fire();
        fireWrongInputs();
        load();
        loadWrongInputs();
        refusalReason();
        refusalOrder();
        CHECK.finish();
    }

    private static SpoonNavy farApart() {
        return Games.started(Games.spoon(0, 0, 0, 0, 3), Games.spoon(1, 9, 9, 4, 3));
    }

    private static void turnTo() {
        CHECK.promise(11, "turnTo");
        for (int from = 0; from < 8; from++) {
            for (int to = 0; to < 8; to++) {
                SpoonNavy navy = Games.started(Games.spoon(0, 0, 0, from, 1), Games.spoon(1, 9, 9, 4, 3));
                int apart = ((to - from) % 8 + 8) % 8;
                CHECK.due("steps " + from + " to " + to, navy.turnTo(0, to), apart > 4 ? 8 - apart : apart);
                CHECK.due("bearing", navy.bearingOf(0), to);
            }
        }
    }

    private static void turnToWrongInputs() {
        SpoonNavy navy = farApart();
        int[] noSpoons = {-1, 2, 12, Integer.MIN_VALUE, Integer.MAX_VALUE};
        for (int none : noSpoons) {
            CHECK.dueThrow("spoon " + none, Check.INDEX, () -> navy.turnTo(none, 9));
        }
        int[] wrongBearings = {-1, 8, Integer.MIN_VALUE, Integer.MAX_VALUE};
        for (int wrong : wrongBearings) {
            CHECK.dueThrow("bearing " + wrong, Check.ARGUMENT, () -> navy.turnTo(1, wrong));
        }
        CHECK.dueThrow("other fleet", Check.STATE, () -> navy.turnTo(1, 0));
        SpoonNavy fresh = Games.prepared(Games.spoon(0, 0, 0, 0, 3), Games.spoon(1, 9, 9, 4, 3));
        CHECK.dueThrow("not started", Check.STATE, () -> fresh.turnTo(0, 0));
        CHECK.dueThrow("not started, bearing", Check.ARGUMENT, () -> fresh.turnTo(0, 8));
        SpoonNavy finished = Games.finished();
        CHECK.dueThrow("finished", Check.STATE, () -> finished.turnTo(0, 0));
        SpoonNavy sunk = Games.withSunkSpoon();
        sunk.endTurn();
        CHECK.dueThrow("sunk", Check.STATE, () -> sunk.turnTo(1, 0));
        navy.turnTo(0, 1);
        navy.turnTo(0, 2);
        navy.turnTo(0, 3);
        CHECK.dueRefusal("fourth action", navy, 1, () -> navy.turnTo(0, 4));
        CHECK.due("refused", navy.bearingOf(0), 3);
        CHECK.dueThrow("no actions, other fleet", Check.STATE, () -> navy.turnTo(1, 4));
    }

    private static void sail() {
        CHECK.promise(12, "sail");
        SpoonNavy navy = Games.started(Games.spoon(0, 0, 0, 0, 3), Games.spoon(0, 4, 6, 2, 3),
                Games.spoon(1, 7, 6, 2, 3), Games.spoon(1, 9, 0, 4, 3));
        CHECK.due("free way", navy.sail(0, 3, false), 3);
        CHECK.due("x", navy.xOf(0), 0);
        CHECK.due("y", navy.yOf(0), 3);
        CHECK.due("cubes", navy.cubesOf(0), 3);
        CHECK.due("stops before a spoon", navy.sail(1, 3, true), 2);
        CHECK.due("x", navy.xOf(1), 6);
        CHECK.due("y", navy.yOf(1), 6);
        CHECK.due("takes a cube", navy.cubesOf(1), 2);
        CHECK.dueRefusal("spoon ahead", navy, 3, () -> navy.sail(1, 1, false));
        CHECK.due("actions", navy.actionsLeft(), 1);
        navy.endTurn();
        CHECK.due("stops at the edge", navy.sail(2, 3, false), 2);
        CHECK.due("x", navy.xOf(2), 9);
        CHECK.dueRefusal("edge ahead", navy, 3, () -> navy.sail(2, 1, true));
        CHECK.due("no cube is taken", navy.cubesOf(2), 3);
        CHECK.dueRefusal("edge ahead in y", navy, 3, () -> navy.sail(3, 3, false));
        SpoonNavy over = Games.withSunkSpoon();
        CHECK.due("a sunk spoon is in no way", over.sail(0, 3, false), 3);
    }

    private static void sailInEachDirection() {
        int[] stepX = {0, 1, 1, 1, 0, -1, -1, -1};
        int[] stepY = {1, 1, 0, -1, -1, -1, 0, 1};
        for (int direction = 0; direction < 8; direction++) {
            for (int cells = 1; cells <= 3; cells++) {
                SpoonNavy navy = Games.started(Games.spoon(0, 5, 5, direction, 3), Games.spoon(1, 0, 2, 4, 3));
                CHECK.due("cells", navy.sail(0, cells, false), cells);
                CHECK.due("x in " + direction, navy.xOf(0), 5 + cells * stepX[direction]);
                CHECK.due("y in " + direction, navy.yOf(0), 5 + cells * stepY[direction]);
            }
        }
    }

    private static void sailWrongInputs() {
        SpoonNavy navy = farApart();
        int[] noSpoons = {-1, 2, 12, Integer.MIN_VALUE, Integer.MAX_VALUE};
        for (int none : noSpoons) {
            CHECK.dueThrow("spoon " + none, Check.INDEX, () -> navy.sail(none, 0, false));
        }
        int[] wrongCells = {0, 4, -1, Integer.MIN_VALUE, Integer.MAX_VALUE};
        for (int wrong : wrongCells) {
            CHECK.dueThrow("cells " + wrong, Check.ARGUMENT, () -> navy.sail(1, wrong, true));
        }
        CHECK.dueThrow("other fleet", Check.STATE, () -> navy.sail(1, 1, false));
        SpoonNavy fresh = Games.prepared(Games.spoon(0, 0, 0, 0, 3), Games.spoon(1, 9, 9, 4, 3));
        CHECK.dueThrow("not started", Check.STATE, () -> fresh.sail(0, 1, false));
        SpoonNavy finished = Games.finished();
        CHECK.dueThrow("finished", Check.STATE, () -> finished.sail(0, 1, false));
        SpoonNavy sunk = Games.withSunkSpoon();
        sunk.endTurn();
        CHECK.dueThrow("sunk", Check.STATE, () -> sunk.sail(1, 1, false));
        navy.sail(0, 1, true);
        navy.sail(0, 1, true);
        navy.sail(0, 1, true);
        CHECK.dueRefusal("no actions before no cubes", navy, 1, () -> navy.sail(0, 1, true));
        navy.endTurn();
        navy.endTurn();
        CHECK.dueRefusal("no cubes", navy, 2, () -> navy.sail(0, 1, true));
        CHECK.due("openly it needs none", navy.sail(0, 1, false), 1);
    }

    private static void knowledgeBySailing() {
        SpoonNavy navy = Games.started(Games.spoon(0, 0, 0, 2, 9), Games.spoon(0, 0, 9, 3, 9),
                Games.spoon(1, 9, 0, 0, 9), Games.spoon(1, 9, 9, 4, 9));
        navy.sail(0, 3, true);
        CHECK.due("known x stays", navy.knownX(0), 0);
        CHECK.due("known y stays", navy.knownY(0), 0);
        CHECK.due("hidden", navy.isHidden(0), true);
        navy.sail(0, 2, true);
        CHECK.due("known x stays still", navy.knownX(0), 0);
        navy.sail(1, 1, false);
        CHECK.due("an own open sailing tells nothing of others", navy.isHidden(0), true);
        CHECK.due("known x of the open one", navy.knownX(1), 1);
        CHECK.due("known y of the open one", navy.knownY(1), 8);
        navy.endTurn();
        navy.turnTo(2, 6);
        navy.sail(2, 1, true);
        CHECK.due("at distance 3 it stays hidden", navy.isHidden(0), true);
        CHECK.due("and so does the other", navy.isHidden(2), true);
        navy.sail(2, 1, true);
        CHECK.due("at distance 2 it is known", navy.isHidden(0), false);
        CHECK.due("known x", navy.knownX(0), 5);
        CHECK.due("both are known", navy.isHidden(2), false);
        CHECK.due("known x of the other", navy.knownX(2), 7);
        navy.endTurn();
        navy.sail(0, 1, false);
        CHECK.due("open sailing", navy.knownX(0), 6);
        farFromSunkSpoons();
        nearOwnSpoons();
        openAfterSecret();
    }

    private static void openAfterSecret() {
        SpoonNavy navy = Games.started(Games.spoon(0, 0, 0, 1, 9), Games.spoon(1, 9, 9, 0, 9));
        navy.sail(0, 2, true);
        navy.sail(0, 1, false);
        CHECK.due("known x", navy.knownX(0), 3);
        CHECK.due("known y", navy.knownY(0), 3);
        navy.endTurn();
        navy.endTurn();
        navy.sail(0, 1, true);
        navy.turnTo(0, 5);
        CHECK.due("turning tells nothing", navy.isHidden(0), true);
        navy.sail(0, 1, true);
        CHECK.due("secretly back in the known cell", navy.isHidden(0), false);
    }

    private static void farFromSunkSpoons() {
        SpoonNavy navy = Games.withSunkSpoon();
        navy.sail(0, 1, true);
        CHECK.due("a sunk spoon knows nothing", navy.isHidden(0), true);
    }

    private static void nearOwnSpoons() {
        SpoonNavy navy = Games.started(Games.spoon(0, 0, 0, 2, 9), Games.spoon(0, 0, 1, 2, 9),
                Games.spoon(1, 9, 9, 0, 9));
        navy.sail(0, 1, true);
        CHECK.due("own spoons tell nothing", navy.isHidden(0), true);
    }

    private static void fire() {
        CHECK.promise(13, "fire");
        SpoonNavy navy = Games.started(Games.spoon(0, 2, 2, 0, 5), Games.spoon(0, 4, 0, 0, 9),
                Games.spoon(1, 2, 4, 4, 3), Games.spoon(1, 9, 9, 4, 3));
        CHECK.due("nothing there", navy.fire(0, 2, 5), 0);
        CHECK.due("takes a cube", navy.cubesOf(0), 4);
        CHECK.due("hit", navy.fire(0, 2, 4), 1);
        CHECK.due("hull", navy.hullOf(2), 1);
        CHECK.due("cubes of the hit spoon", navy.cubesOf(2), 3);
        CHECK.due("sunk", navy.fire(1, 2, 4), 2);
        CHECK.due("hull", navy.hullOf(2), 0);
        CHECK.due("isSunk", navy.isSunk(2), true);
        CHECK.due("cubes are lost", navy.cubesOf(2), 0);
        CHECK.due("pot of the sunk one", navy.potOf(1), 20);
        CHECK.due("actions", navy.actionsLeft(), 0);
        navy.endTurn();
        navy.endTurn();
        CHECK.due("a sunk spoon is in no cell", navy.fire(1, 2, 4), 0);
        CHECK.due("own spoon", navy.fire(1, 2, 2), 1);
        CHECK.due("own hull", navy.hullOf(0), 1);
        CHECK.due("own spoon sunk", navy.fire(1, 2, 2), 2);
        knowledgeByFiring();
    }

    private static void knowledgeByFiring() {
        SpoonNavy navy = Games.started(Games.spoon(0, 0, 0, 0, 9), Games.spoon(1, 6, 0, 0, 9),
                Games.spoon(1, 9, 9, 0, 9));
        navy.sail(0, 3, true);
        navy.turnTo(0, 1);
        navy.endTurn();
        navy.sail(1, 3, true);
        navy.endTurn();
        CHECK.due("the firing one was hidden", navy.isHidden(0), true);
        CHECK.due("the target was hidden", navy.isHidden(1), true);
        navy.fire(0, 5, 8);
        CHECK.due("the firing one is known", navy.knownY(0), 3);
        CHECK.due("the other stays hidden", navy.isHidden(1), true);
        navy.turnTo(0, 2);
        CHECK.due("hit", navy.fire(0, 6, 3), 1);
        CHECK.due("the hit one is known in x", navy.knownX(1), 6);
        CHECK.due("the hit one is known in y", navy.knownY(1), 3);
    }

    private static void fireWrongInputs() {
        SpoonNavy navy = farApart();
        int[] noSpoons = {-1, 2, 12, Integer.MIN_VALUE, Integer.MAX_VALUE};
        for (int none : noSpoons) {
            CHECK.dueThrow("spoon " + none, Check.INDEX, () -> navy.fire(none, 10, 0));
        }
        int[] wrongCoordinates = {-1, 10, Integer.MIN_VALUE, Integer.MAX_VALUE};
        for (int wrong : wrongCoordinates) {
            CHECK.dueThrow("x " + wrong, Check.ARGUMENT, () -> navy.fire(1, wrong, 0));
            CHECK.dueThrow("y " + wrong, Check.ARGUMENT, () -> navy.fire(1, 0, wrong));
        }
        CHECK.dueThrow("other fleet", Check.STATE, () -> navy.fire(1, 9, 8));
        SpoonNavy fresh = Games.prepared(Games.spoon(0, 0, 0, 0, 3), Games.spoon(1, 9, 9, 4, 3));
        CHECK.dueThrow("not started", Check.STATE, () -> fresh.fire(0, 0, 1));
        SpoonNavy finished = Games.finished();
        CHECK.dueThrow("finished", Check.STATE, () -> finished.fire(0, 2, 3));
        SpoonNavy sunk = Games.withSunkSpoon();
        sunk.endTurn();
        CHECK.dueThrow("sunk", Check.STATE, () -> sunk.fire(1, 2, 3));
        CHECK.dueRefusal("own cell", navy, 4, () -> navy.fire(0, 0, 0));
        CHECK.dueRefusal("one too far", navy, 4, () -> navy.fire(0, 0, 4));
        CHECK.dueRefusal("wrong direction", navy, 5, () -> navy.fire(0, 3, 0));
        CHECK.dueRefusal("too far and wrong direction", navy, 4, () -> navy.fire(0, 4, 0));
        CHECK.due("the last cell in reach", navy.fire(0, 0, 3), 0);
        CHECK.dueRefusal("that one is too far now", navy, 4, () -> navy.fire(0, 0, 3));
        CHECK.due("shots", navy.shotCount(), 1);
        navy.fire(0, 0, 1);
        navy.fire(0, 0, 1);
        CHECK.dueRefusal("no actions before no cubes", navy, 1, () -> navy.fire(0, 0, 1));
        navy.endTurn();
        navy.endTurn();
        CHECK.dueRefusal("no cubes before the distance", navy, 2, () -> navy.fire(0, 0, 0));
    }

    private static void load() {
        CHECK.promise(14, "load");
        SpoonNavy navy = Games.started(Games.spoon(0, 0, 0, 0, 1), Games.spoon(0, 1, 0, 0, 1),
                Games.spoon(0, 2, 0, 0, 1), Games.spoon(1, 9, 9, 4, 3));
        CHECK.due("up to 9", navy.load(0, 8), 9);
        CHECK.due("pot", navy.potOf(0), 12);
        CHECK.due("other pot", navy.potOf(1), 20);
        CHECK.due("cubesOf", navy.cubesOf(0), 9);
        CHECK.dueRefusal("a tenth", navy, 6, () -> navy.load(0, 1));
        CHECK.due("another spoon", navy.load(1, 7), 8);
        CHECK.due("pot", navy.potOf(0), 5);
        CHECK.dueRefusal("the pot has fewer", navy, 6, () -> navy.load(2, 6));
        CHECK.due("refused", navy.cubesOf(2), 1);
        CHECK.due("all of the pot", navy.load(2, 5), 6);
        CHECK.due("pot", navy.potOf(0), 0);
        navy.endTurn();
        CHECK.due("the other fleet", navy.load(3, 1), 4);
        CHECK.due("its pot", navy.potOf(1), 19);
        CHECK.due("empty pot", navy.potOf(0), 0);
    }

    private static void loadWrongInputs() {
        SpoonNavy navy = farApart();
        int[] noSpoons = {-1, 2, 12, Integer.MIN_VALUE, Integer.MAX_VALUE};
        for (int none : noSpoons) {
            CHECK.dueThrow("spoon " + none, Check.INDEX, () -> navy.load(none, 0));
        }
        int[] wrongCubes = {0, 10, -1, Integer.MIN_VALUE, Integer.MAX_VALUE};
        for (int wrong : wrongCubes) {
            CHECK.dueThrow("cubes " + wrong, Check.ARGUMENT, () -> navy.load(1, wrong));
        }
        CHECK.dueThrow("other fleet", Check.STATE, () -> navy.load(1, 1));
        SpoonNavy fresh = Games.prepared(Games.spoon(0, 0, 0, 0, 3), Games.spoon(1, 9, 9, 4, 3));
        CHECK.dueThrow("not started", Check.STATE, () -> fresh.load(0, 1));
        SpoonNavy finished = Games.finished();
        CHECK.dueThrow("finished", Check.STATE, () -> finished.load(0, 1));
        SpoonNavy sunk = Games.withSunkSpoon();
        sunk.endTurn();
        CHECK.dueThrow("sunk", Check.STATE, () -> sunk.load(1, 1));
        navy.load(0, 1);
        navy.load(0, 1);
        navy.load(0, 1);
        CHECK.dueRefusal("no actions before a wrong load", navy, 1, () -> navy.load(0, 9));
    }

    private static void refusalReason() {
        CHECK.promise(15, "refusalReason");
        SpoonNavy navy = farApart();
        CHECK.dueThrow("none", Check.NO_ELEMENT, () -> navy.refusalReason());
        CHECK.dueThrow("other fleet", Check.STATE, () -> navy.load(1, 1));
        CHECK.dueThrow("still none", Check.NO_ELEMENT, () -> navy.refusalReason());
        CHECK.dueRefusal("load", navy, 6, () -> navy.load(0, 9));
        CHECK.dueRefusal("fire", navy, 5, () -> navy.fire(0, 1, 0));
        navy.fire(0, 0, 1);
        CHECK.due("a success leaves it", navy.refusalReason(), 5);
        CHECK.dueThrow("wrong state", Check.STATE, () -> navy.load(1, 1));
        CHECK.due("another exception leaves it", navy.refusalReason(), 5);
        navy.undo();
        CHECK.due("undo leaves it", navy.refusalReason(), 5);
        navy.save();
        CHECK.dueRefusal("load", navy, 6, () -> navy.load(0, 9));
        navy.restore();
        CHECK.due("restore leaves it", navy.refusalReason(), 6);
    }

    private static void refusalOrder() {
        SpoonNavy navy = Games.started(Games.spoon(0, 0, 9, 0, 1), Games.spoon(1, 9, 9, 4, 3));
        CHECK.dueRefusal("blocked with a cube", navy, 3, () -> navy.sail(0, 1, true));
        navy.turnTo(0, 2);
        navy.fire(0, 1, 9);
        navy.turnTo(0, 0);
        CHECK.dueRefusal("no actions left before all others", navy, 1, () -> navy.sail(0, 1, true));
        CHECK.dueRefusal("no actions left to turn", navy, 1, () -> navy.turnTo(0, 0));
        navy.endTurn();
        navy.endTurn();
        CHECK.dueRefusal("no cubes before blocked", navy, 2, () -> navy.sail(0, 1, true));
        CHECK.dueRefusal("openly blocked", navy, 3, () -> navy.sail(0, 1, false));
        CHECK.dueRefusal("no cubes before the own cell", navy, 2, () -> navy.fire(0, 0, 9));
        CHECK.dueRefusal("no cubes before out of reach", navy, 2, () -> navy.fire(0, 0, 8));
        CHECK.due("refusals take no action", navy.actionsLeft(), 3);
        CHECK.due("undo goes back behind the latest endTurn", navy.undo(), 7);
        CHECK.due("refusals are no changes", navy.activeFleet(), 1);
    }
}
