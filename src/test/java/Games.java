/** Ways to bring a SpoonNavy where a test wants it. */
final class Games {

    private static final int[] STEP_X = {0, 1, 1, 1, 0, -1, -1, -1};
    private static final int[] STEP_Y = {1, 1, 0, -1, -1, -1, 0, 1};

    private Games() {
    }

    /** A game that is going on; each row holds fleet, x, y, bearing and cubes of a spoon. */
    static SpoonNavy started(int[]... spoons) {
        SpoonNavy navy = prepared(spoons);
        navy.start();
        return navy;
    }

    static SpoonNavy prepared(int[]... spoons) {
        SpoonNavy navy = new SpoonNavy();
        for (int[] spoon : spoons) {
            navy.addSpoon(spoon[0], spoon[1], spoon[2], spoon[3], spoon[4]);
        }
        return navy;
    }

    static int[] spoon(int fleet, int x, int y, int bearing, int cubes) {
        return new int[] {fleet, x, y, bearing, cubes};
    }

    /** Spoon 0 of fleet 0 has sunk spoon 1 of fleet 1: the game is finished. */
    static SpoonNavy finished() {
        SpoonNavy navy = started(spoon(0, 2, 2, 0, 5), spoon(1, 2, 4, 4, 3));
        navy.fire(0, 2, 4);
        navy.fire(0, 2, 4);
        return navy;
    }

    /** Spoon 1 of fleet 1 has sunk spoon 0 of fleet 0 in the second turn: the game is finished. */
    static SpoonNavy lost() {
        SpoonNavy navy = started(spoon(0, 2, 4, 4, 3), spoon(1, 2, 2, 0, 5));
        navy.endTurn();
        navy.fire(1, 2, 4);
        navy.fire(1, 2, 4);
        return navy;
    }

    /** Spoon 1 of fleet 1 is sunk, spoon 2 of fleet 1 floats: the game goes on, fleet 0 has 1 action. */
    static SpoonNavy withSunkSpoon() {
        SpoonNavy navy = started(spoon(0, 2, 2, 0, 5), spoon(1, 2, 4, 4, 3), spoon(1, 9, 9, 4, 6));
        navy.fire(0, 2, 4);
        navy.fire(0, 2, 4);
        return navy;
    }

    /** All twelve spoons, those of fleet 0 with the even numbers, along the rows 0 and 1; not started. */
    static SpoonNavy twelve() {
        SpoonNavy navy = new SpoonNavy();
        for (int spoon = 0; spoon < 12; spoon++) {
            navy.addSpoon(spoon % 2, spoon % 10, spoon / 10, 0, 1);
        }
        return navy;
    }

    static int stepX(int direction) {
        return STEP_X[direction];
    }

    static int stepY(int direction) {
        return STEP_Y[direction];
    }

    static void type(SpoonNavy navy, String text) {
        for (int i = 0; i < text.length(); i++) {
            navy.append(text.charAt(i));
        }
    }

    static int run(SpoonNavy navy, String text) {
        type(navy, text);
        return navy.run();
    }

    static String line(SpoonNavy navy, int length) {
        StringBuilder text = new StringBuilder();
        for (int i = 0; i < length; i++) {
            text.append(navy.lineAt(i));
        }
        return text.toString();
    }

    static String row(SpoonNavy navy, int y) {
        return line(navy, navy.describeRow(y));
    }

    /** All that changes can change, as a text that two objects can be compared by. */
    static String stateOf(SpoonNavy navy) {
        StringBuilder text = new StringBuilder();
        text.append(navy.isStarted()).append(navy.isFinished()).append(navy.turnCount());
        if (navy.isStarted() && !navy.isFinished()) {
            text.append(' ').append(navy.activeFleet()).append(navy.actionsLeft());
        }
        for (int fleet = 0; fleet < 2; fleet++) {
            text.append(" f").append(navy.potOf(fleet)).append('/').append(navy.fleetCubesByAccount(fleet));
        }
        text.append(" t").append(navy.shotCount()).append('/').append(navy.hitCount());
        text.append('/').append(navy.cellsSailed()).append('/').append(navy.secretCount());
        for (int spoon = 0; spoon < navy.spoonCount(); spoon++) {
            text.append(" s").append(navy.fleetOf(spoon)).append(navy.bearingOf(spoon));
            text.append(navy.hullOf(spoon)).append(navy.cubesOf(spoon));
            if (!navy.isSunk(spoon)) {
                text.append(navy.xOf(spoon)).append(navy.yOf(spoon));
                text.append(navy.knownX(spoon)).append(navy.knownY(spoon));
            }
        }
        return text.toString();
    }
}
