import java.util.ArrayList;
import java.util.List;

/**
 * Long runs of mixed calls, right and wrong ones: only the exceptions of the document come, a call
 * that throws changes nothing, undo leads back, command texts do what the calls do, and the answers
 * of one state agree with each other. An object is promised for 512 calls alone, so each question
 * gets a fresh object on which the run so far is played again.
 */
public final class RandomCallsTest {

    private static final Check CHECK = new Check();
    private static final int GAMES = 120;
    private static final int CALLS = 100;

    // A generator of its own with a fixed seed, so that each run of the test makes the same calls.
    private static long seed = 20261119L;

    private final List<String> played = new ArrayList<>();

    public static void main(String[] args) {
        CHECK.promise(0, "all promises together");
        for (int game = 0; game < GAMES; game++) {
            new RandomCallsTest().play();
        }
        CHECK.finish();
    }

    private void play() {
        int spoons = 2 + below(11);
        for (int call = 0; call < CALLS; call++) {
            String text = commandFor(replay(), spoons);
            boolean isDone = dueCall(text);
            dueRun(text, isDone);
            if (isDone && below(5) > 0) {
                played.add(text);
                dueLaws(text);
            }
            wrongQuestions(replay());
        }
    }

    private SpoonNavy replay() {
        SpoonNavy navy = new SpoonNavy();
        for (String text : played) {
            call(navy, text.split(" "));
        }
        return navy;
    }

    /** Calls the method of the command on one object and says whether it succeeded. */
    private boolean dueCall(String text) {
        String before = Games.stateOf(replay());
        SpoonNavy navy = replay();
        boolean isDone = dueOutcome(text, navy);
        if (isDone) {
            navy.undo();
            CHECK.due("undo of " + text, Games.stateOf(navy), before);
        } else {
            CHECK.due("state after " + text + " threw", Games.stateOf(navy), before);
        }
        return isDone;
    }

    /** The command as a text does what the call does. */
    private void dueRun(String text, boolean isDone) {
        SpoonNavy called = replay();
        SpoonNavy twin = replay();
        Games.type(twin, text);
        if (isDone) {
            call(called, text.split(" "));
            CHECK.due("run of " + text, twin.run(), 1);
        } else {
            CHECK.dueThrow("run of " + text, Check.STATE, () -> twin.run());
            CHECK.due("failed command of " + text, twin.failedCommand(), 0);
        }
        CHECK.due("state after the run of " + text, Games.stateOf(twin), Games.stateOf(called));
    }

    /** A command text of one command: mostly one that can succeed in the state of the game. */
    private static String commandFor(SpoonNavy navy, int spoons) {
        if (!navy.isStarted()) {
            boolean isFull = navy.spoonCount() >= spoons && below(3) > 0;
            return isFull ? "start" : "spoon " + below(2) + " " + below(10) + below(10) + " " + below(8) + below(10);
        }
        int spoon = below(12) == 0 ? below(100) : below(Math.max(1, navy.spoonCount()));
        switch (below(8)) {
            case 0:
                return "turn " + spoon + " " + below(9);
            case 1:
                return "sail " + spoon + " " + below(5);
            case 2:
                return "sneak " + spoon + " " + below(5);
            case 3:
                return "load " + spoon + " " + below(10);
            case 4:
                return below(2) == 0 ? "end" : "start";
            default:
                return "fire " + spoon + " " + targetFor(navy, spoon);
        }
    }

    private static String targetFor(SpoonNavy navy, int spoon) {
        int other = below(Math.max(1, navy.spoonCount()));
        if (spoon < navy.spoonCount() && below(5) > 0 && !navy.isSunk(other)) {
            return "" + navy.xOf(other) + navy.yOf(other);
        }
        return "" + below(10) + below(10);
    }

    /** Calls the method of a command; true if it succeeds. */
    private static boolean dueOutcome(String text, SpoonNavy navy) {
        String[] words = text.split(" ");
        try {
            call(navy, words);
            return true;
        } catch (RuntimeException thrown) {
            boolean isSimple = words[0].equals("start") || words[0].equals("end");
            Class<?> kind = thrown.getClass();
            boolean isDue = kind == Check.STATE
                    || !isSimple && (kind == Check.INDEX || kind == Check.ARGUMENT || kind == Check.UNSUPPORTED);
            CHECK.due(text + " threw " + kind, isDue, true);
            return false;
        }
    }

    private static int call(SpoonNavy navy, String[] words) {
        int first = words.length > 1 ? Integer.parseInt(words[1]) : 0;
        int tens = words.length > 2 ? words[2].charAt(0) - '0' : 0;
        int ones = words.length > 2 && words[2].length() > 1 ? words[2].charAt(1) - '0' : 0;
        switch (words[0]) {
            case "spoon":
                return navy.addSpoon(first, tens, ones, words[3].charAt(0) - '0', words[3].charAt(1) - '0');
            case "start":
                return navy.start();
            case "turn":
                return navy.turnTo(first, tens);
            case "sail":
                return navy.sail(first, tens, false);
            case "sneak":
                return navy.sail(first, tens, true);
            case "fire":
                return navy.fire(first, tens, ones);
            case "load":
                return navy.load(first, tens);
            default:
                return navy.endTurn();
        }
    }

    private void dueLaws(String text) {
        CHECK.due("isConsistent after " + text, replay().isConsistent(), true);
        dueSums(replay());
        dueRanks(replay());
        int spoons = replay().spoonCount();
        for (int spoon = 0; spoon < spoons; spoon++) {
            if (!replay().isSunk(spoon)) {
                dueRanges(replay(), spoon);
                // Only after a sailing: another change may leave a spoon hidden next to an opponent.
                if (text.startsWith("sail") || text.startsWith("sneak")) {
                    dueKnowledge(replay(), spoon);
                }
            }
        }
    }

    private static void dueSums(SpoonNavy navy) {
        int[] cubes = new int[2];
        int[] afloat = new int[2];
        for (int spoon = 0; spoon < navy.spoonCount(); spoon++) {
            cubes[navy.fleetOf(spoon)] += navy.cubesOf(spoon);
            afloat[navy.fleetOf(spoon)] += navy.isSunk(spoon) ? 0 : 1;
            CHECK.due("hull tells isSunk", navy.hullOf(spoon) == 0, navy.isSunk(spoon));
        }
        for (int fleet = 0; fleet < 2; fleet++) {
            CHECK.due("fleetCubes", navy.fleetCubes(fleet), cubes[fleet]);
            CHECK.due("fleetCubesByAccount", navy.fleetCubesByAccount(fleet), cubes[fleet]);
            CHECK.due("floating", navy.floating(fleet), afloat[fleet]);
        }
        CHECK.due("isFinished", navy.isFinished(), navy.isStarted() && (afloat[0] == 0 || afloat[1] == 0));
    }

    private static void dueRanges(SpoonNavy navy, int spoon) {
        CHECK.due("spoonAt", navy.spoonAt(navy.xOf(spoon), navy.yOf(spoon)), spoon);
        CHECK.due("cellsAhead", navy.cellsAhead(spoon), walkAhead(navy, spoon));
        CHECK.due("targetCount", navy.targetCount(spoon), countTargets(navy, spoon));
    }

    private static int walkAhead(SpoonNavy navy, int spoon) {
        int x = navy.xOf(spoon);
        int y = navy.yOf(spoon);
        int bearing = navy.bearingOf(spoon);
        for (int cells = 0; ; cells++) {
            x += Games.stepX(bearing);
            y += Games.stepY(bearing);
            if (x < 0 || x > 9 || y < 0 || y > 9 || Games.row(navy, y).charAt(x) != '.') {
                return cells;
            }
        }
    }

    private static int countTargets(SpoonNavy navy, int spoon) {
        int found = 0;
        for (int other = 0; other < navy.spoonCount(); other++) {
            if (navy.isSunk(other) || navy.fleetOf(other) == navy.fleetOf(spoon)) {
                continue;
            }
            int steps = navy.directionTo(spoon, navy.xOf(other), navy.yOf(other)) - navy.bearingOf(spoon);
            boolean isAhead = steps >= -1 && steps <= 1 || steps == 7 || steps == -7;
            if (isAhead && navy.distance(spoon, other) <= navy.cubesOf(spoon)) {
                found++;
            }
        }
        return found;
    }

    private static void dueRanks(SpoonNavy navy) {
        List<Integer> left = new ArrayList<>();
        for (int spoon = 0; spoon < navy.spoonCount(); spoon++) {
            if (!navy.isSunk(spoon)) {
                left.add(spoon);
            }
        }
        left.sort((a, b) -> {
            int byCubes = Integer.compare(navy.cubesOf(b), navy.cubesOf(a));
            int byHull = Integer.compare(navy.hullOf(b), navy.hullOf(a));
            return byCubes != 0 ? byCubes : byHull != 0 ? byHull : Integer.compare(a, b);
        });
        for (int rank = 0; rank < left.size(); rank++) {
            CHECK.due("spoonAtRank " + rank, navy.spoonAtRank(rank), left.get(rank));
        }
        CHECK.dueThrow("the rank behind the last", Check.NO_ELEMENT, () -> navy.spoonAtRank(left.size()));
    }

    private static void dueKnowledge(SpoonNavy navy, int spoon) {
        for (int other = 0; other < navy.spoonCount(); other++) {
            boolean isNear = !navy.isSunk(other) && navy.fleetOf(spoon) != navy.fleetOf(other)
                    && navy.distance(spoon, other) <= 2;
            if (isNear) {
                CHECK.due("hidden near an opponent", navy.isHidden(spoon), false);
            }
        }
    }

    private static void wrongQuestions(SpoonNavy navy) {
        int wild = below(2) == 0 ? Integer.MIN_VALUE + below(3) : Integer.MAX_VALUE - below(3);
        CHECK.dueThrow("addSpoon", Check.INDEX, () -> navy.addSpoon(wild, wild, wild, wild, wild));
        CHECK.dueThrow("addSpoon", Check.ARGUMENT, () -> navy.addSpoon(0, wild, wild, wild, wild));
        CHECK.dueThrow("turnTo", Check.INDEX, () -> navy.turnTo(wild, wild));
        CHECK.dueThrow("sail", Check.INDEX, () -> navy.sail(wild, wild, true));
        CHECK.dueThrow("fire", Check.INDEX, () -> navy.fire(wild, wild, wild));
        CHECK.dueThrow("load", Check.INDEX, () -> navy.load(wild, wild));
        CHECK.dueThrow("spoonAt", Check.ARGUMENT, () -> navy.spoonAt(wild, wild));
        CHECK.dueThrow("spoonAtRank", Check.NO_ELEMENT, () -> navy.spoonAtRank(wild));
        CHECK.dueThrow("describeRow", Check.ARGUMENT, () -> navy.describeRow(wild));
        CHECK.dueThrow("lineAt", Check.INDEX, () -> navy.lineAt(wild));
        if (navy.spoonCount() > 0) {
            CHECK.dueThrow("turnTo", Check.ARGUMENT, () -> navy.turnTo(0, wild));
            CHECK.dueThrow("sail", Check.ARGUMENT, () -> navy.sail(0, wild, true));
            CHECK.dueThrow("fire", Check.ARGUMENT, () -> navy.fire(0, wild, wild));
            CHECK.dueThrow("load", Check.ARGUMENT, () -> navy.load(0, wild));
            CHECK.dueThrow("directionTo", Check.ARGUMENT, () -> navy.directionTo(0, wild, wild));
            CHECK.dueThrow("isInReach", Check.ARGUMENT, () -> navy.isInReach(0, wild, wild));
        }
    }

    private static int below(int bound) {
        seed = seed * 6364136223846793005L + 1442695040888963407L;
        return (int) ((seed >>> 33) % bound);
    }
}
