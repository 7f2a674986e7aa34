/** Promises 1 to 10: a new object, preparation and turns. */
public final class TurnsTest {

    private static final Check CHECK = new Check();

    public static void main(String[] args) {
        newObject();
        addSpoon();
        addSpoonWrongInputs();
        addSpoonExceptionOrder();
        start();
        endTurn();
        isStarted();
        isFinished();
        winner();
        activeFleet();
        actionsLeft();
        turnCount();
        CHECK.finish();
    }

    private static void newObject() {
        CHECK.promise(1, "a new object");
        SpoonNavy navy = new SpoonNavy();
        CHECK.due("spoonCount", navy.spoonCount(), 0);
        CHECK.due("isStarted", navy.isStarted(), false);
        CHECK.due("isFinished", navy.isFinished(), false);
        CHECK.due("turnCount", navy.turnCount(), 0);
        CHECK.due("floating(0)", navy.floating(0), 0);
        CHECK.due("floating(1)", navy.floating(1), 0);
        CHECK.due("potOf(0)", navy.potOf(0), 20);
        CHECK.due("potOf(1)", navy.potOf(1), 20);
        CHECK.due("shotCount", navy.shotCount(), 0);
        CHECK.due("cellsSailed", navy.cellsSailed(), 0);
        CHECK.due("isConsistent", navy.isConsistent(), true);
        for (int y = 0; y < 10; y++) {
            CHECK.due("row " + y, Games.row(navy, y), "..........");
        }
    }

    private static void addSpoon() {
        CHECK.promise(2, "addSpoon");
        SpoonNavy navy = new SpoonNavy();
        CHECK.due("first", navy.addSpoon(0, 0, 9, 0, 1), 0);
        CHECK.due("second", navy.addSpoon(1, 9, 0, 7, 9), 1);
        CHECK.due("third", navy.addSpoon(0, 4, 5, 3, 2), 2);
        CHECK.due("fleetOf(1)", navy.fleetOf(1), 1);
        CHECK.due("xOf(1)", navy.xOf(1), 9);
        CHECK.due("yOf(1)", navy.yOf(1), 0);
        CHECK.due("bearingOf(1)", navy.bearingOf(1), 7);
        CHECK.due("cubesOf(1)", navy.cubesOf(1), 9);
        CHECK.due("hullOf(1)", navy.hullOf(1), 2);
        CHECK.due("knownX(1)", navy.knownX(1), 9);
        CHECK.due("knownY(1)", navy.knownY(1), 0);
        CHECK.due("isHidden(1)", navy.isHidden(1), false);
        CHECK.due("pot is left alone", navy.potOf(1), 20);
        CHECK.due("account", navy.fleetCubesByAccount(0), 3);
    }

    private static void addSpoonWrongInputs() {
        SpoonNavy navy = Games.prepared(Games.spoon(0, 3, 3, 0, 4));
        int[] wrongFleets = {-1, 2, Integer.MIN_VALUE, Integer.MAX_VALUE};
        for (int fleet : wrongFleets) {
            CHECK.dueThrow("fleet " + fleet, Check.INDEX, () -> navy.addSpoon(fleet, 0, 0, 0, 1));
        }
        int[] wrongCoordinates = {-1, 10, Integer.MIN_VALUE, Integer.MAX_VALUE};
        for (int wrong : wrongCoordinates) {
            CHECK.dueThrow("x " + wrong, Check.ARGUMENT, () -> navy.addSpoon(0, wrong, 0, 0, 1));
            CHECK.dueThrow("y " + wrong, Check.ARGUMENT, () -> navy.addSpoon(0, 0, wrong, 0, 1));
            CHECK.dueThrow("cubes " + wrong, Check.ARGUMENT, () -> navy.addSpoon(0, 0, 0, 0, wrong));
        }
        int[] wrongBearings = {-1, 8, Integer.MIN_VALUE, Integer.MAX_VALUE};
        for (int bearing : wrongBearings) {
            CHECK.dueThrow("bearing " + bearing, Check.ARGUMENT, () -> navy.addSpoon(0, 0, 0, bearing, 1));
        }
        CHECK.dueThrow("0 cubes", Check.ARGUMENT, () -> navy.addSpoon(0, 0, 0, 0, 0));
        CHECK.dueThrow("taken cell", Check.UNSUPPORTED, () -> navy.addSpoon(0, 3, 3, 0, 1));
        CHECK.dueThrow("taken by the other fleet", Check.UNSUPPORTED, () -> navy.addSpoon(1, 3, 3, 0, 1));
        CHECK.dueThrow("a taken cell is no refused action", Check.NO_ELEMENT, () -> navy.refusalReason());
        CHECK.due("spoonCount after the wrong calls", navy.spoonCount(), 1);
        CHECK.due("changes after the wrong calls", navy.undo(), 0);
    }

    private static void addSpoonExceptionOrder() {
        SpoonNavy navy = new SpoonNavy();
        for (int x = 0; x < 6; x++) {
            CHECK.due("spoon " + x, navy.addSpoon(1, x, 0, 0, 1), x);
        }
        CHECK.dueThrow("seventh", Check.STATE, () -> navy.addSpoon(1, 7, 7, 0, 1));
        CHECK.dueThrow("seventh, taken cell", Check.STATE, () -> navy.addSpoon(1, 0, 0, 0, 1));
        CHECK.dueThrow("seventh, wrong cubes", Check.ARGUMENT, () -> navy.addSpoon(1, 0, 0, 0, 10));
        CHECK.dueThrow("wrong fleet and cubes", Check.INDEX, () -> navy.addSpoon(2, 0, 0, 0, 10));
        CHECK.due("the other fleet has room", navy.addSpoon(0, 9, 9, 4, 1), 6);
        for (int x = 0; x < 5; x++) {
            navy.addSpoon(0, x, 5, 0, 1);
        }
        CHECK.due("twelve spoons", navy.spoonCount(), 12);
        CHECK.dueThrow("thirteenth", Check.STATE, () -> navy.addSpoon(0, 7, 7, 0, 1));
        SpoonNavy started = Games.started(Games.spoon(0, 0, 0, 0, 1), Games.spoon(1, 9, 9, 0, 1));
        CHECK.dueThrow("after the start", Check.STATE, () -> started.addSpoon(0, 5, 5, 0, 1));
        CHECK.dueThrow("after the start, taken cell", Check.STATE, () -> started.addSpoon(0, 0, 0, 0, 1));
        SpoonNavy finished = Games.finished();
        CHECK.dueThrow("after the end", Check.STATE, () -> finished.addSpoon(1, 5, 5, 0, 1));
    }

    private static void start() {
        CHECK.promise(3, "start");
        SpoonNavy navy = new SpoonNavy();
        CHECK.dueThrow("no spoons", Check.STATE, () -> navy.start());
        navy.addSpoon(0, 0, 0, 0, 1);
        CHECK.dueThrow("fleet 1 has none", Check.STATE, () -> navy.start());
        navy.undo();
        navy.addSpoon(1, 0, 0, 0, 1);
        CHECK.dueThrow("fleet 0 has none", Check.STATE, () -> navy.start());
        navy.addSpoon(1, 1, 0, 0, 1);
        navy.addSpoon(0, 2, 0, 0, 1);
        CHECK.due("isStarted before", navy.isStarted(), false);
        CHECK.due("start", navy.start(), 3);
        CHECK.due("isStarted", navy.isStarted(), true);
        CHECK.due("activeFleet", navy.activeFleet(), 0);
        CHECK.due("actionsLeft", navy.actionsLeft(), 3);
        CHECK.dueThrow("again", Check.STATE, () -> navy.start());
        SpoonNavy finished = Games.finished();
        CHECK.dueThrow("after the end", Check.STATE, () -> finished.start());
    }

    private static void endTurn() {
        CHECK.promise(4, "endTurn");
        SpoonNavy navy = Games.prepared(Games.spoon(0, 0, 0, 0, 1), Games.spoon(1, 9, 9, 4, 1));
        CHECK.dueThrow("before the start", Check.STATE, () -> navy.endTurn());
        navy.start();
        navy.turnTo(0, 1);
        CHECK.due("first", navy.endTurn(), 1);
        CHECK.due("activeFleet", navy.activeFleet(), 1);
        CHECK.due("actionsLeft", navy.actionsLeft(), 3);
        CHECK.due("second", navy.endTurn(), 0);
        CHECK.due("activeFleet again", navy.activeFleet(), 0);
        CHECK.due("actionsLeft again", navy.actionsLeft(), 3);
        SpoonNavy finished = Games.finished();
        CHECK.dueThrow("after the end", Check.STATE, () -> finished.endTurn());
    }

    private static void isStarted() {
        CHECK.promise(5, "isStarted");
        SpoonNavy navy = Games.prepared(Games.spoon(0, 0, 0, 0, 1), Games.spoon(1, 9, 9, 4, 1));
        CHECK.due("before", navy.isStarted(), false);
        navy.start();
        CHECK.due("after", navy.isStarted(), true);
        CHECK.due("when finished", Games.finished().isStarted(), true);
    }

    private static void isFinished() {
        CHECK.promise(6, "isFinished");
        SpoonNavy navy = new SpoonNavy();
        CHECK.due("new", navy.isFinished(), false);
        navy.addSpoon(0, 0, 0, 0, 1);
        CHECK.due("one fleet has no spoons yet", navy.isFinished(), false);
        SpoonNavy goingOn = Games.withSunkSpoon();
        CHECK.due("one of two spoons is sunk", goingOn.isFinished(), false);
        CHECK.due("all spoons of a fleet are sunk", Games.finished().isFinished(), true);
    }

    private static void winner() {
        CHECK.promise(7, "winner");
        SpoonNavy fresh = new SpoonNavy();
        CHECK.dueThrow("new", Check.STATE, () -> fresh.winner());
        SpoonNavy goingOn = Games.withSunkSpoon();
        CHECK.dueThrow("going on", Check.STATE, () -> goingOn.winner());
        CHECK.due("fleet 0", Games.finished().winner(), 0);
        SpoonNavy other = Games.started(Games.spoon(0, 2, 4, 4, 3), Games.spoon(1, 2, 2, 0, 5));
        other.endTurn();
        other.fire(1, 2, 4);
        other.fire(1, 2, 4);
        CHECK.due("fleet 1", other.winner(), 1);
        SpoonNavy own = Games.started(Games.spoon(0, 2, 2, 0, 9), Games.spoon(0, 2, 4, 0, 9),
                Games.spoon(1, 9, 9, 0, 1), Games.spoon(1, 9, 2, 6, 9));
        own.fire(0, 2, 4);
        own.fire(0, 2, 4);
        own.endTurn();
        own.fire(3, 2, 2);
        own.fire(3, 2, 2);
        CHECK.due("own shots count too", own.winner(), 1);
    }

    private static void activeFleet() {
        CHECK.promise(8, "activeFleet");
        SpoonNavy navy = Games.prepared(Games.spoon(0, 0, 0, 0, 1), Games.spoon(1, 9, 9, 4, 1));
        CHECK.dueThrow("before the start", Check.STATE, () -> navy.activeFleet());
        navy.start();
        CHECK.due("first", navy.activeFleet(), 0);
        navy.endTurn();
        CHECK.due("second", navy.activeFleet(), 1);
        SpoonNavy finished = Games.finished();
        CHECK.dueThrow("finished", Check.STATE, () -> finished.activeFleet());
    }

    private static void actionsLeft() {
        CHECK.promise(9, "actionsLeft");
        SpoonNavy navy = Games.prepared(Games.spoon(0, 0, 0, 0, 3), Games.spoon(1, 9, 9, 4, 1));
        CHECK.dueThrow("before the start", Check.STATE, () -> navy.actionsLeft());
        navy.start();
        navy.turnTo(0, 0);
        CHECK.due("after turning", navy.actionsLeft(), 2);
        navy.sail(0, 3, true);
        CHECK.due("after sailing", navy.actionsLeft(), 1);
        navy.fire(0, 0, 5);
        CHECK.due("after firing", navy.actionsLeft(), 0);
        navy.endTurn();
        navy.load(1, 1);
        CHECK.due("after loading", navy.actionsLeft(), 2);
        CHECK.dueRefusal("load", navy, 6, () -> navy.load(1, 9));
        CHECK.due("after a refusal", navy.actionsLeft(), 2);
        SpoonNavy finished = Games.finished();
        CHECK.dueThrow("finished", Check.STATE, () -> finished.actionsLeft());
    }

    private static void turnCount() {
        CHECK.promise(10, "turnCount");
        SpoonNavy navy = Games.prepared(Games.spoon(0, 0, 0, 0, 3), Games.spoon(1, 9, 9, 4, 1));
        CHECK.due("before the start", navy.turnCount(), 0);
        navy.start();
        CHECK.due("after the start", navy.turnCount(), 0);
        navy.endTurn();
        CHECK.due("after one", navy.turnCount(), 1);
        navy.endTurn();
        CHECK.due("after two", navy.turnCount(), 2);
        CHECK.due("when finished", Games.finished().turnCount(), 0);
    }
}
