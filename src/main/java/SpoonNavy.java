import java.util.NoSuchElementException;

/** A game of two fleets of spoons on a tray. */
public final class SpoonNavy {

    private static final int SIDE = 10;
    private static final int DIRECTIONS = 8;
    private static final int SPOONS_PER_FLEET = 6;
    private static final int SPOONS = 12;
    private static final int FULL_HULL = 2;
    private static final int FULL_SPOON = 9;
    private static final int FULL_POT = 20;
    private static final int ACTIONS = 3;
    private static final int LONGEST_SAIL = 3;
    private static final int DISCOVERY_DISTANCE = 2;
    private static final int UNDO_DEPTH = 8;
    private static final int TEXT_CAPACITY = 60;
    private static final int MOST_NUMBERS = 5;

    private static final int NO_ACTIONS_LEFT = 1;
    private static final int NO_CUBES = 2;
    private static final int BLOCKED = 3;
    private static final int WRONG_DISTANCE = 4;
    private static final int OUT_OF_REACH = 5;
    private static final int WRONG_LOAD = 6;

    // Outcomes below 0 stand for exceptions, so that run() needs no catch to learn that a command fails.
    private static final int ACCEPTED = 0;
    private static final int NO_SUCH_INDEX = -1;
    private static final int BAD_ARGUMENT = -2;
    private static final int BAD_STATE = -3;
    private static final int CELL_TAKEN = -4;
    /** A refused action has the outcome REFUSED - reason. */
    private static final int REFUSED = -10;

    private static final int NOT_A_TEXT = -1;
    private static final int NEVER = -1;
    private static final char ANY_DIGIT = '#';
    private static final char ANY_NUMBER = '%';

    private static final Form[] FORMS = Form.values();

    private final Game game;
    private final Game before;
    private final Game snapshot;
    private final History history;
    private final CommandText commandText;
    private final char[] line;
    private int lineLength;
    private boolean hasSnapshot;
    private int keptReason;
    private int keptErrorPosition;
    private int keptFailedCommand;

    public SpoonNavy() {
        game = new Game();
        before = new Game();
        snapshot = new Game();
        history = new History();
        commandText = new CommandText();
        line = new char[SIDE];
        lineLength = 0;
        hasSnapshot = false;
        keptReason = 0;
        keptErrorPosition = NEVER;
        keptFailedCommand = NEVER;
    }

    // ---- preparation and turns

    public int addSpoon(int fleet, int x, int y, int bearing, int cubes)
            throws IndexOutOfBoundsException, IllegalArgumentException, IllegalStateException,
            UnsupportedOperationException {
        before.copyFrom(game);
        return concluded(game.place(fleet, x, y, bearing, cubes));
    }

    public int start() throws IllegalStateException {
        before.copyFrom(game);
        return concluded(game.begin());
    }

    public int endTurn() throws IllegalStateException {
        before.copyFrom(game);
        return concluded(game.passTurn());
    }

    public boolean isStarted() {
        return game.hasBegun;
    }

    public boolean isFinished() {
        return game.isOver();
    }

    public int winner() throws IllegalStateException {
        if (!game.isOver()) {
            throw new IllegalStateException("the game is not finished");
        }
        return game.accountOf(0).afloat > 0 ? 0 : 1;
    }

    public int activeFleet() throws IllegalStateException {
        requireGoingOn();
        return game.active;
    }

    public int actionsLeft() throws IllegalStateException {
        requireGoingOn();
        return game.actions;
    }

    public int turnCount() {
        return game.turns;
    }

    // ---- actions

    public int turnTo(int spoon, int bearing)
            throws IndexOutOfBoundsException, IllegalArgumentException, IllegalStateException,
            UnsupportedOperationException {
        before.copyFrom(game);
        return concluded(game.rotate(spoon, bearing));
    }

    public int sail(int spoon, int cells, boolean isSecret)
            throws IndexOutOfBoundsException, IllegalArgumentException, IllegalStateException,
            UnsupportedOperationException {
        before.copyFrom(game);
        return concluded(game.move(spoon, cells, isSecret));
    }

    public int fire(int spoon, int x, int y)
            throws IndexOutOfBoundsException, IllegalArgumentException, IllegalStateException,
            UnsupportedOperationException {
        before.copyFrom(game);
        return concluded(game.shoot(spoon, x, y));
    }

    public int load(int spoon, int cubes)
            throws IndexOutOfBoundsException, IllegalArgumentException, IllegalStateException,
            UnsupportedOperationException {
        before.copyFrom(game);
        return concluded(game.fill(spoon, cubes));
    }

    public int refusalReason() throws NoSuchElementException {
        if (keptReason == 0) {
            throw new NoSuchElementException("no action was refused");
        }
        return keptReason;
    }

    // ---- spoons

    public int spoonCount() {
        return game.count;
    }

    public int fleetOf(int spoon) throws IndexOutOfBoundsException {
        return existing(spoon).fleet;
    }

    public int xOf(int spoon) throws IndexOutOfBoundsException, NoSuchElementException {
        return existingAfloat(spoon).x;
    }

    public int yOf(int spoon) throws IndexOutOfBoundsException, NoSuchElementException {
        return existingAfloat(spoon).y;
    }

    public int bearingOf(int spoon) throws IndexOutOfBoundsException {
        return existing(spoon).bearing;
    }

    public int cubesOf(int spoon) throws IndexOutOfBoundsException {
        return existing(spoon).cubes;
    }

    public int hullOf(int spoon) throws IndexOutOfBoundsException {
        return existing(spoon).hull;
    }

    public boolean isSunk(int spoon) throws IndexOutOfBoundsException {
        return !existing(spoon).isAfloat();
    }

    public int spoonAt(int x, int y) throws IllegalArgumentException, NoSuchElementException {
        requireCell(x, y);
        Spoon found = game.spoonIn(x, y);
        if (found == null) {
            throw new NoSuchElementException("no spoon is in the cell");
        }
        return found.number;
    }

    public int knownX(int spoon) throws IndexOutOfBoundsException, NoSuchElementException {
        return existingAfloat(spoon).seenX;
    }

    public int knownY(int spoon) throws IndexOutOfBoundsException, NoSuchElementException {
        return existingAfloat(spoon).seenY;
    }

    public boolean isHidden(int spoon) throws IndexOutOfBoundsException {
        Spoon asked = existing(spoon);
        return asked.isAfloat() && (asked.seenX != asked.x || asked.seenY != asked.y);
    }

    public int floating(int fleet) throws IndexOutOfBoundsException {
        requireFleet(fleet);
        return game.accountOf(fleet).afloat;
    }

    public int spoonAtRank(int rank) throws NoSuchElementException {
        Spoon found = game.ranked(rank);
        if (found == null) {
            throw new NoSuchElementException("there is no such rank");
        }
        return found.number;
    }

    // ---- bearings and ranges

    public int distance(int spoon, int other) throws IndexOutOfBoundsException, NoSuchElementException {
        Spoon from = existing(spoon);
        Spoon to = existing(other);
        if (!from.isAfloat() || !to.isAfloat()) {
            throw new NoSuchElementException("a spoon is sunk");
        }
        return from.distanceTo(to.x, to.y);
    }

    public int directionTo(int spoon, int x, int y)
            throws IndexOutOfBoundsException, IllegalArgumentException, NoSuchElementException {
        Spoon from = existing(spoon);
        requireCell(x, y);
        if (!from.isAfloat() || from.isIn(x, y)) {
            throw new NoSuchElementException("there is no direction");
        }
        return directionOf(x - from.x, y - from.y);
    }

    public boolean isInReach(int spoon, int x, int y)
            throws IndexOutOfBoundsException, IllegalArgumentException {
        Spoon from = existing(spoon);
        requireCell(x, y);
        return from.reaches(x, y);
    }

    public int targetCount(int spoon) throws IndexOutOfBoundsException {
        return game.targetsBySpoons(existing(spoon));
    }

    public int targetCountByCells(int spoon) throws IndexOutOfBoundsException {
        return game.targetsByCells(existing(spoon));
    }

    public int cellsAhead(int spoon) throws IndexOutOfBoundsException, NoSuchElementException {
        return game.freeAhead(existingAfloat(spoon));
    }

    // ---- cubes and totals

    public int potOf(int fleet) throws IndexOutOfBoundsException {
        requireFleet(fleet);
        return game.accountOf(fleet).pot;
    }

    public int fleetCubes(int fleet) throws IndexOutOfBoundsException {
        requireFleet(fleet);
        return game.cubesBySpoons(fleet);
    }

    public int fleetCubesByAccount(int fleet) throws IndexOutOfBoundsException {
        requireFleet(fleet);
        return game.accountOf(fleet).balance();
    }

    public int shotCount() {
        return game.shots;
    }

    public int hitCount() {
        return game.hits;
    }

    public long cellsSailed() {
        return game.sailedCells;
    }

    public int secretCount() {
        return game.secretSails;
    }

    // ---- commands

    public int append(char character) throws IllegalArgumentException, IllegalStateException {
        if (character < 32 || character > 126) {
            throw new IllegalArgumentException("the character is out of range");
        }
        if (commandText.isFull()) {
            throw new IllegalStateException("the command text is full");
        }
        return commandText.add(character);
    }

    public int run() throws IllegalArgumentException, IllegalStateException {
        int commands = commandText.countCommands();
        if (commands == NOT_A_TEXT) {
            keptErrorPosition = commandText.position;
            commandText.clear();
            throw new IllegalArgumentException("the text is not a command text");
        }
        before.copyFrom(game);
        int failed = firstFailure(commands);
        commandText.clear();
        if (failed != NEVER) {
            keptFailedCommand = failed;
            game.copyFrom(before);
            throw new IllegalStateException("a command fails");
        }
        history.push(before);
        return commands;
    }

    public int errorPosition() throws NoSuchElementException {
        if (keptErrorPosition == NEVER) {
            throw new NoSuchElementException("no error position was set");
        }
        return keptErrorPosition;
    }

    public int failedCommand() throws NoSuchElementException {
        if (keptFailedCommand == NEVER) {
            throw new NoSuchElementException("no command has failed");
        }
        return keptFailedCommand;
    }

    // ---- line, statistics, undo, snapshot

    public int describeRow(int y) throws IllegalArgumentException {
        requireCell(0, y);
        for (int x = 0; x < line.length; x++) {
            Spoon found = game.spoonIn(x, y);
            line[x] = found == null ? '.' : found.letter();
        }
        lineLength = line.length;
        return lineLength;
    }

    public char lineAt(int index) throws IndexOutOfBoundsException {
        if (index < 0 || index >= lineLength || index >= line.length) {
            throw new IndexOutOfBoundsException("there is no such index");
        }
        return line[index];
    }

    public float hitShare() throws ArithmeticException {
        if (game.shots == 0) {
            throw new ArithmeticException("there was no shot");
        }
        return (float) game.hits / (float) game.shots;
    }

    public double meanCubes(int fleet) throws IndexOutOfBoundsException, ArithmeticException {
        requireFleet(fleet);
        int afloat = game.accountOf(fleet).afloat;
        if (afloat == 0) {
            throw new ArithmeticException("no spoon of the fleet floats");
        }
        return (double) game.cubesBySpoons(fleet) / (double) afloat;
    }

    public boolean isConsistent() {
        return game.areTargetsEqual() && game.areCubesEqual() && game.areCellsSingle();
    }

    public int undo() throws IllegalStateException {
        if (!history.pop(game)) {
            throw new IllegalStateException("there is no change to undo");
        }
        return history.size;
    }

    public int save() {
        snapshot.copyFrom(game);
        hasSnapshot = true;
        return game.count;
    }

    public int restore() throws IllegalStateException {
        if (!hasSnapshot) {
            throw new IllegalStateException("there is no snapshot");
        }
        game.copyFrom(snapshot);
        history.clear();
        return game.count;
    }

    // ---- what the face is made of

    /** Remembers a change that succeeded; throws what a failed one asks for. */
    private int concluded(int outcome) {
        if (outcome >= 0) {
            history.push(before);
            return outcome;
        }
        keepReason(outcome);
        switch (outcome) {
            case NO_SUCH_INDEX:
                throw new IndexOutOfBoundsException("there is no such spoon or fleet");
            case BAD_ARGUMENT:
                throw new IllegalArgumentException("a number is out of range");
            case BAD_STATE:
                throw new IllegalStateException("the game does not allow this now");
            case CELL_TAKEN:
                throw new UnsupportedOperationException("a spoon is in the cell");
            default:
                throw new UnsupportedOperationException("the action is refused");
        }
    }

    private void keepReason(int outcome) {
        if (outcome < REFUSED) {
            keptReason = REFUSED - outcome;
        }
    }

    /** Carries commands out up to the first that fails and returns its index, or NEVER. */
    private int firstFailure(int commands) {
        commandText.rewind();
        for (int index = 0; index < commands; index++) {
            commandText.readCommand();
            int outcome = carryOut(commandText);
            if (outcome < 0) {
                keepReason(outcome);
                return index;
            }
            commandText.skipSeparator();
        }
        return NEVER;
    }

    private int carryOut(CommandText command) {
        int first = command.number(0);
        int second = command.number(1);
        int third = command.number(2);
        switch (command.form) {
            case SPOON:
                return game.place(first, second, third, command.number(3), command.number(4));
            case START:
                return game.begin();
            case TURN:
                return game.rotate(first, second);
            case SAIL:
                return game.move(first, second, false);
            case SNEAK:
                return game.move(first, second, true);
            case FIRE:
                return game.shoot(first, second, third);
            case LOAD:
                return game.fill(first, second);
            default:
                return game.passTurn();
        }
    }

    private Spoon existing(int spoon) {
        Spoon found = game.numbered(spoon);
        if (found == null) {
            throw new IndexOutOfBoundsException("there is no such spoon");
        }
        return found;
    }

    private Spoon existingAfloat(int spoon) {
        Spoon found = existing(spoon);
        if (!found.isAfloat()) {
            throw new NoSuchElementException("the spoon is sunk");
        }
        return found;
    }

    private void requireGoingOn() {
        if (!game.isGoingOn()) {
            throw new IllegalStateException("the game is not going on");
        }
    }

    private static void requireFleet(int fleet) {
        if (!isFleet(fleet)) {
            throw new IndexOutOfBoundsException("there is no such fleet");
        }
    }

    private static void requireCell(int x, int y) {
        if (!isOnTray(x, y)) {
            throw new IllegalArgumentException("a coordinate is out of range");
        }
    }

    private static boolean isFleet(int fleet) {
        return fleet == 0 || fleet == 1;
    }

    private static boolean isOnTray(int x, int y) {
        return x >= 0 && x < SIDE && y >= 0 && y < SIDE;
    }

    private static boolean isBearing(int bearing) {
        return bearing >= 0 && bearing < DIRECTIONS;
    }

    private static boolean isCubeNumber(int cubes) {
        return cubes >= 1 && cubes <= FULL_SPOON;
    }

    private static int stepX(int direction) {
        if (direction == 0 || direction == 4) {
            return 0;
        }
        return direction < 4 ? 1 : -1;
    }

    private static int stepY(int direction) {
        if (direction == 2 || direction == 6) {
            return 0;
        }
        return direction > 2 && direction < 6 ? -1 : 1;
    }

    /** The direction of a cell that lies by these differences away; not both may be 0. */
    private static int directionOf(int differenceX, int differenceY) {
        int a = Math.abs(differenceX);
        int b = Math.abs(differenceY);
        if (a >= 2 * b) {
            return differenceX > 0 ? 2 : 6;
        }
        if (b >= 2 * a) {
            return differenceY > 0 ? 0 : 4;
        }
        if (differenceX > 0) {
            return differenceY > 0 ? 1 : 3;
        }
        return differenceY > 0 ? 7 : 5;
    }

    private static int stepsBetween(int direction, int other) {
        int steps = Math.abs(direction - other);
        return Math.min(steps, DIRECTIONS - steps);
    }

    /** The forms of a command: ANY_DIGIT stands for a digit, ANY_NUMBER for one digit or two. */
    private enum Form {
        SPOON("spoon # ## ##"),
        START("start"),
        TURN("turn % #"),
        SAIL("sail % #"),
        SNEAK("sneak % #"),
        FIRE("fire % ##"),
        LOAD("load % #"),
        END("end");

        private final String pattern;

        Form(String pattern) {
            this.pattern = pattern;
        }
    }

    /** A spoon; one that has not been added yet has no hull and so counts nowhere. */
    private static final class Spoon {
        private final int number;
        private int fleet;
        private int x;
        private int y;
        private int bearing;
        private int hull;
        private int cubes;
        private int seenX;
        private int seenY;

        Spoon(int number) {
            this.number = number;
        }

        void copyFrom(Spoon other) {
            fleet = other.fleet;
            x = other.x;
            y = other.y;
            bearing = other.bearing;
            hull = other.hull;
            cubes = other.cubes;
            seenX = other.seenX;
            seenY = other.seenY;
        }

        boolean isAfloat() {
            return hull > 0;
        }

        boolean isAfloatOf(int askedFleet) {
            return isAfloat() && fleet == askedFleet;
        }

        boolean isIn(int cellX, int cellY) {
            return x == cellX && y == cellY;
        }

        int distanceTo(int cellX, int cellY) {
            return Math.max(Math.abs(cellX - x), Math.abs(cellY - y));
        }

        boolean isInRange(int cellX, int cellY) {
            int cells = distanceTo(cellX, cellY);
            return cells >= 1 && cells <= cubes;
        }

        boolean reaches(int cellX, int cellY) {
            return isAfloat() && isInRange(cellX, cellY)
                    && stepsBetween(bearing, directionOf(cellX - x, cellY - y)) <= 1;
        }

        void becomeKnown() {
            seenX = x;
            seenY = y;
        }

        boolean ranksBefore(Spoon other) {
            if (cubes != other.cubes) {
                return cubes > other.cubes;
            }
            if (hull != other.hull) {
                return hull > other.hull;
            }
            return number < other.number;
        }

        char letter() {
            return (char) ((fleet == 0 ? 'a' : 'A') + number);
        }
    }

    /** The spoons and the pot of a fleet, and where the cubes on its spoons came from and went. */
    private static final class Account {
        private int spoons = 0;
        private int afloat = 0;
        private int pot = FULL_POT;
        private int added = 0;
        private int loaded = 0;
        private int fired = 0;
        private int sneaked = 0;
        private int sunken = 0;

        void copyFrom(Account other) {
            spoons = other.spoons;
            afloat = other.afloat;
            pot = other.pot;
            added = other.added;
            loaded = other.loaded;
            fired = other.fired;
            sneaked = other.sneaked;
            sunken = other.sunken;
        }

        int balance() {
            return added + loaded - fired - sneaked - sunken;
        }
    }

    /** Everything that changes can change. */
    private static final class Game {
        private final Spoon[] spoons = new Spoon[SPOONS];
        private final Account firstAccount = new Account();
        private final Account secondAccount = new Account();
        private int count = 0;
        private boolean hasBegun = false;
        private int active = 0;
        private int actions = 0;
        private int turns = 0;
        private int shots = 0;
        private int hits = 0;
        private long sailedCells = 0;
        private int secretSails = 0;

        Game() {
            for (int i = 0; i < spoons.length; i++) {
                spoons[i] = new Spoon(i);
            }
        }

        void copyFrom(Game other) {
            for (int i = 0; i < spoons.length && i < other.spoons.length; i++) {
                spoons[i].copyFrom(other.spoons[i]);
            }
            firstAccount.copyFrom(other.firstAccount);
            secondAccount.copyFrom(other.secondAccount);
            count = other.count;
            hasBegun = other.hasBegun;
            active = other.active;
            actions = other.actions;
            turns = other.turns;
            shots = other.shots;
            hits = other.hits;
            sailedCells = other.sailedCells;
            secretSails = other.secretSails;
        }

        // -- what a game is asked

        Spoon numbered(int number) {
            if (number < 0 || number >= count || number >= spoons.length) {
                return null;
            }
            return spoons[number];
        }

        Account accountOf(int fleet) {
            return fleet == 0 ? firstAccount : secondAccount;
        }

        boolean isOver() {
            return hasBegun && (firstAccount.afloat == 0 || secondAccount.afloat == 0);
        }

        boolean isGoingOn() {
            return hasBegun && !isOver();
        }

        Spoon spoonIn(int x, int y) {
            for (Spoon each : spoons) {
                if (each.isAfloat() && each.isIn(x, y)) {
                    return each;
                }
            }
            return null;
        }

        Spoon ranked(int rank) {
            for (Spoon each : spoons) {
                if (each.isAfloat() && countRankedBefore(each) == rank) {
                    return each;
                }
            }
            return null;
        }

        private int countRankedBefore(Spoon spoon) {
            int found = 0;
            for (Spoon each : spoons) {
                if (each.isAfloat() && each.ranksBefore(spoon)) {
                    found++;
                }
            }
            return found;
        }

        int targetsBySpoons(Spoon from) {
            int found = 0;
            for (Spoon each : spoons) {
                if (each.isAfloatOf(1 - from.fleet) && from.reaches(each.x, each.y)) {
                    found++;
                }
            }
            return found;
        }

        int targetsByCells(Spoon from) {
            int found = 0;
            for (int y = 0; y < SIDE; y++) {
                for (int x = 0; x < SIDE; x++) {
                    if (from.reaches(x, y) && isHeldAgainst(from, x, y)) {
                        found++;
                    }
                }
            }
            return found;
        }

        private boolean isHeldAgainst(Spoon from, int x, int y) {
            Spoon held = spoonIn(x, y);
            return held != null && held.fleet != from.fleet;
        }

        int freeAhead(Spoon spoon) {
            int stepX = stepX(spoon.bearing);
            int stepY = stepY(spoon.bearing);
            int free = 0;
            while (free < SIDE && isFree(spoon.x + (free + 1) * stepX, spoon.y + (free + 1) * stepY)) {
                free++;
            }
            return free;
        }

        private boolean isFree(int x, int y) {
            return isOnTray(x, y) && spoonIn(x, y) == null;
        }

        int cubesBySpoons(int fleet) {
            int sum = 0;
            for (Spoon each : spoons) {
                if (each.isAfloatOf(fleet)) {
                    sum += each.cubes;
                }
            }
            return sum;
        }

        // -- the invariants

        boolean areTargetsEqual() {
            for (Spoon each : spoons) {
                if (targetsBySpoons(each) != targetsByCells(each)) {
                    return false;
                }
            }
            return true;
        }

        boolean areCubesEqual() {
            return cubesBySpoons(0) == firstAccount.balance() && cubesBySpoons(1) == secondAccount.balance();
        }

        boolean areCellsSingle() {
            for (Spoon each : spoons) {
                Spoon first = spoonIn(each.x, each.y);
                if (each.isAfloat() && first != null && first.number != each.number) {
                    return false;
                }
            }
            return true;
        }

        // -- the changes: each returns its answer, or changes nothing and returns an outcome below 0

        int place(int fleet, int x, int y, int bearing, int cubes) {
            if (!isFleet(fleet)) {
                return NO_SUCH_INDEX;
            }
            if (!isOnTray(x, y) || !isBearing(bearing) || !isCubeNumber(cubes)) {
                return BAD_ARGUMENT;
            }
            Account account = accountOf(fleet);
            if (hasBegun || account.spoons >= SPOONS_PER_FLEET || count >= spoons.length) {
                return BAD_STATE;
            }
            if (spoonIn(x, y) != null) {
                return CELL_TAKEN;
            }
            Spoon added = spoons[count];
            added.fleet = fleet;
            added.x = x;
            added.y = y;
            added.bearing = bearing;
            added.hull = FULL_HULL;
            added.cubes = cubes;
            added.becomeKnown();
            account.spoons++;
            account.afloat++;
            account.added += cubes;
            count++;
            return added.number;
        }

        int begin() {
            if (hasBegun || firstAccount.spoons == 0 || secondAccount.spoons == 0) {
                return BAD_STATE;
            }
            hasBegun = true;
            active = 0;
            actions = ACTIONS;
            return count;
        }

        int passTurn() {
            if (!isGoingOn()) {
                return BAD_STATE;
            }
            active = 1 - active;
            actions = ACTIONS;
            turns++;
            return active;
        }

        int rotate(int number, int bearing) {
            Spoon spoon = numbered(number);
            if (spoon == null) {
                return NO_SUCH_INDEX;
            }
            int objection = objectionTo(spoon, isBearing(bearing));
            if (objection != ACCEPTED) {
                return objection;
            }
            int steps = stepsBetween(spoon.bearing, bearing);
            spoon.bearing = bearing;
            actions--;
            return steps;
        }

        int move(int number, int cells, boolean isSecret) {
            Spoon spoon = numbered(number);
            if (spoon == null) {
                return NO_SUCH_INDEX;
            }
            int objection = objectionTo(spoon, cells >= 1 && cells <= LONGEST_SAIL);
            if (objection != ACCEPTED) {
                return objection;
            }
            if (isSecret && spoon.cubes == 0) {
                return REFUSED - NO_CUBES;
            }
            int sailed = Math.min(cells, freeAhead(spoon));
            if (sailed == 0) {
                return REFUSED - BLOCKED;
            }
            spoon.x += sailed * stepX(spoon.bearing);
            spoon.y += sailed * stepY(spoon.bearing);
            sailedCells += sailed;
            actions--;
            if (isSecret) {
                payForSecret(spoon);
            } else {
                spoon.becomeKnown();
            }
            discover();
            return sailed;
        }

        private void payForSecret(Spoon spoon) {
            spoon.cubes--;
            accountOf(spoon.fleet).sneaked++;
            secretSails++;
        }

        private void discover() {
            for (Spoon each : spoons) {
                if (each.isAfloat() && isOpponentNear(each)) {
                    each.becomeKnown();
                }
            }
        }

        private boolean isOpponentNear(Spoon spoon) {
            for (Spoon each : spoons) {
                if (each.isAfloatOf(1 - spoon.fleet)
                        && each.distanceTo(spoon.x, spoon.y) <= DISCOVERY_DISTANCE) {
                    return true;
                }
            }
            return false;
        }

        int shoot(int number, int x, int y) {
            Spoon spoon = numbered(number);
            if (spoon == null) {
                return NO_SUCH_INDEX;
            }
            int objection = objectionTo(spoon, isOnTray(x, y));
            if (objection != ACCEPTED) {
                return objection;
            }
            if (spoon.cubes == 0) {
                return REFUSED - NO_CUBES;
            }
            if (!spoon.isInRange(x, y)) {
                return REFUSED - WRONG_DISTANCE;
            }
            if (!spoon.reaches(x, y)) {
                return REFUSED - OUT_OF_REACH;
            }
            spoon.cubes--;
            accountOf(spoon.fleet).fired++;
            spoon.becomeKnown();
            shots++;
            actions--;
            Spoon target = spoonIn(x, y);
            return target == null ? 0 : hit(target);
        }

        private int hit(Spoon target) {
            hits++;
            target.hull--;
            target.becomeKnown();
            if (target.isAfloat()) {
                return 1;
            }
            Account account = accountOf(target.fleet);
            account.afloat--;
            account.sunken += target.cubes;
            target.cubes = 0;
            return 2;
        }

        int fill(int number, int cubes) {
            Spoon spoon = numbered(number);
            if (spoon == null) {
                return NO_SUCH_INDEX;
            }
            int objection = objectionTo(spoon, isCubeNumber(cubes));
            if (objection != ACCEPTED) {
                return objection;
            }
            Account account = accountOf(spoon.fleet);
            if (account.pot < cubes || spoon.cubes + cubes > FULL_SPOON) {
                return REFUSED - WRONG_LOAD;
            }
            account.pot -= cubes;
            account.loaded += cubes;
            spoon.cubes += cubes;
            actions--;
            return spoon.cubes;
        }

        /** What speaks against any action of the spoon, in the document's order. */
        private int objectionTo(Spoon spoon, boolean isArgumentInRange) {
            if (!isArgumentInRange) {
                return BAD_ARGUMENT;
            }
            if (!isGoingOn() || !spoon.isAfloatOf(active)) {
                return BAD_STATE;
            }
            return actions == 0 ? REFUSED - NO_ACTIONS_LEFT : ACCEPTED;
        }
    }

    /** The states before the latest changes, in a ring: its rows are made once and used again. */
    private static final class History {
        private final Game[] states = new Game[UNDO_DEPTH];
        private int next = 0;
        private int size = 0;

        History() {
            for (int i = 0; i < states.length; i++) {
                states[i] = new Game();
            }
        }

        void push(Game state) {
            if (next < 0 || next >= states.length) {
                return;
            }
            states[next].copyFrom(state);
            next = next + 1 < states.length ? next + 1 : 0;
            size = Math.min(size + 1, states.length);
        }

        /** Puts the latest state into the game; false if there is none. */
        boolean pop(Game game) {
            int latest = next > 0 ? next - 1 : states.length - 1;
            if (size == 0 || latest < 0 || latest >= states.length) {
                return false;
            }
            game.copyFrom(states[latest]);
            next = latest;
            size--;
            return true;
        }

        void clear() {
            size = 0;
        }
    }

    /** The buffer of the command text, and the reader that goes through it command by command. */
    private static final class CommandText {
        private final char[] characters = new char[TEXT_CAPACITY];
        private final int[] numbers = new int[MOST_NUMBERS];
        private int length = 0;
        private int position = 0;
        private int matchEnd = 0;
        private int numberCount = 0;
        private Form form = Form.END;

        boolean isFull() {
            return length >= characters.length;
        }

        int add(char character) {
            if (length >= 0 && length < characters.length) {
                characters[length] = character;
                length++;
            }
            return length;
        }

        void clear() {
            length = 0;
        }

        void rewind() {
            position = 0;
        }

        /** The number of commands, or NOT_A_TEXT with the position at the error. */
        int countCommands() {
            rewind();
            for (int count = 1; count <= TEXT_CAPACITY; count++) {
                if (!readCommand()) {
                    return NOT_A_TEXT;
                }
                if (position == length) {
                    return count;
                }
                if (!skipSeparator()) {
                    return NOT_A_TEXT;
                }
            }
            return NOT_A_TEXT;
        }

        boolean skipSeparator() {
            if (!isAt(position, ';')) {
                return false;
            }
            position++;
            return true;
        }

        /** Goes behind the command at the position, or to the first character that fits no form. */
        boolean readCommand() {
            int farthest = position;
            for (Form each : FORMS) {
                if (matches(each.pattern)) {
                    form = each;
                    position = matchEnd;
                    return true;
                }
                farthest = Math.max(farthest, matchEnd);
            }
            position = farthest;
            return false;
        }

        private boolean matches(String pattern) {
            matchEnd = position;
            numberCount = 0;
            for (int i = 0; i < pattern.length(); i++) {
                if (!matchesSign(pattern.charAt(i))) {
                    return false;
                }
            }
            return true;
        }

        private boolean matchesSign(char sign) {
            if (sign == ANY_DIGIT || sign == ANY_NUMBER) {
                return matchesNumber(sign == ANY_NUMBER ? 2 : 1);
            }
            if (!isAt(matchEnd, sign)) {
                return false;
            }
            matchEnd++;
            return true;
        }

        private boolean matchesNumber(int mostDigits) {
            int value = 0;
            int digits = 0;
            while (digits < mostDigits && isDigitAt(matchEnd)) {
                value = 10 * value + digitAt(matchEnd);
                digits++;
                matchEnd++;
            }
            if (digits == 0 || numberCount < 0 || numberCount >= numbers.length) {
                return false;
            }
            numbers[numberCount] = value;
            numberCount++;
            return true;
        }

        /** A number of the command that was read, or 0 if it has fewer. */
        int number(int index) {
            return index >= 0 && index < numberCount && index < numbers.length ? numbers[index] : 0;
        }

        private boolean isAt(int index, char sign) {
            return index >= 0 && index < length && index < characters.length && characters[index] == sign;
        }

        private boolean isDigitAt(int index) {
            return index >= 0 && index < length && index < characters.length
                    && characters[index] >= '0' && characters[index] <= '9';
        }

        private int digitAt(int index) {
            return isDigitAt(index) ? characters[index] - '0' : 0;
        }
    }
}
