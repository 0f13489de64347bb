import java.util.NoSuchElementException;

/** A contest of players on a hill of stones; the promises of DOC.md tell what each call does. */
public final class HillContest {
    private static final int ROWS = 5;
    private static final int COLUMNS = 5;
    private static final int CELLS = 25;
    private static final int OUTSIDE = 25;
    private static final int SIDES = 4;
    private static final int NOBODY = -1;
    private static final int NONE = -1;
    private static final int MAX_STONES_ON_HILL = 300;
    private static final int MAX_STONES_AT_ONCE = 9;
    private static final int MAX_STONES_AT_ENTRY = 60;
    private static final int MAX_PLAYERS = 4;
    private static final int MIN_SLOPE = 2;
    private static final int MAX_SLOPE = 6;
    private static final int INITIAL_SLOPE = 3;
    private static final int TOPPLES_PER_ROUND = 4;
    private static final int MAX_UNDO = 8;
    private static final int MAX_TEXT = 60;

    /** The shortest command has four characters and all but the last a semicolon: 60 hold 12. */
    private static final int MAX_COMMANDS = 12;

    /**
     * Each topple lowers the sum of the squared heights by at least 2, and 309 stones (300 and 9
     * more in a trial) have a sum of at most 95481, so that no hill ever topples as often.
     */
    private static final int MAX_TOPPLES = 50000;

    /**
     * Four numbers for each cell, in ascending order, so that the first of several lowest
     * neighbours is the one that counts.
     */
    private static final int[] NEIGHBOURS = {
        1, 5, 25, 25,
        0, 2, 6, 25,
        1, 3, 7, 25,
        2, 4, 8, 25,
        3, 9, 25, 25,
        0, 6, 10, 25,
        1, 5, 7, 11,
        2, 6, 8, 12,
        3, 7, 9, 13,
        4, 8, 14, 25,
        5, 11, 15, 25,
        6, 10, 12, 16,
        7, 11, 13, 17,
        8, 12, 14, 18,
        9, 13, 19, 25,
        10, 16, 20, 25,
        11, 15, 17, 21,
        12, 16, 18, 22,
        13, 17, 19, 23,
        14, 18, 24, 25,
        15, 21, 25, 25,
        16, 20, 22, 25,
        17, 21, 23, 25,
        18, 22, 24, 25,
        19, 23, 25, 25,
    };

    private static final Keyword[] KEYWORDS = Keyword.values();

    private final State now = new State();
    private final State beforeRun = new State();
    private final State snapshot = new State();
    private boolean hasSnapshot;
    private final State[] history = new State[MAX_UNDO];
    private int oldestInHistory;
    private int undoable;
    private final Trial trial = new Trial();
    private final CommandText commandText = new CommandText();
    private int lastErrorPosition = NONE;
    private int lastFailedCommand = NONE;
    private final StringBuilder line = new StringBuilder();

    public HillContest() {
        for (int i = 0; i < MAX_UNDO; i++) {
            history[i] = new State();
        }
    }

    // ---- players and stones

    public int addPlayer(int stones) throws IllegalArgumentException, IllegalStateException {
        throwIfAny(now.faultOfEntry(stones));
        keepForUndo(now);
        return now.enterPlayer(stones);
    }

    public int drop(int player, int cell, int stones)
            throws IndexOutOfBoundsException, IllegalArgumentException, IllegalStateException,
                    UnsupportedOperationException {
        throwIfAny(now.faultOfDrop(player, cell, stones));
        keepForUndo(now);
        return now.dropStones(player, cell, stones);
    }

    public int pile(int cell, int stones)
            throws IndexOutOfBoundsException, IllegalArgumentException, IllegalStateException {
        throwIfAny(now.faultOfPile(cell, stones));
        keepForUndo(now);
        return now.pileStones(cell, stones);
    }

    public int take(int player, int cell)
            throws IndexOutOfBoundsException, NoSuchElementException,
                    UnsupportedOperationException {
        throwIfAny(now.faultOfTake(player, cell));
        keepForUndo(now);
        return now.takeStone(player, cell);
    }

    public int skip() {
        keepForUndo(now);
        now.passRound(NOBODY);
        return now.countResting();
    }

    public int playerCount() {
        return now.players;
    }

    public int hand(int player) throws IndexOutOfBoundsException {
        requirePlayer(player);
        return now.hands[player];
    }

    public int rest(int player) throws IndexOutOfBoundsException {
        requirePlayer(player);
        return now.rests[player];
    }

    // ---- the hill

    public int setSlope(int slope) throws IllegalArgumentException {
        throwIfAny(now.faultOfSlope(slope));
        keepForUndo(now);
        return now.changeSlope(slope);
    }

    public boolean setBorder(boolean isOpen) {
        keepForUndo(now);
        boolean wasOpen = now.hill.isOpen;
        now.changeBorder(isOpen);
        return wasOpen;
    }

    public int criticalSlope() {
        return now.hill.slope;
    }

    public boolean isBorderOpen() {
        return now.hill.isOpen;
    }

    public int height(int cell) throws IndexOutOfBoundsException {
        requireCell(cell);
        return now.hill.heights[cell];
    }

    public int owner(int cell) throws IndexOutOfBoundsException, NoSuchElementException {
        requireCell(cell);
        if (now.hill.owners[cell] == NOBODY) {
            throw new NoSuchElementException("the cell belongs to nobody");
        }
        return now.hill.owners[cell];
    }

    public int steepness(int cell) throws IndexOutOfBoundsException {
        requireCell(cell);
        return now.hill.steepnessOf(cell);
    }

    public int lowestNeighbour(int cell) throws IndexOutOfBoundsException {
        requireCell(cell);
        return now.hill.findLowestNeighbour(cell);
    }

    public int stonesOnHill() {
        return now.hill.countByCells();
    }

    public int stonesByLevels() {
        return now.hill.countByLevels();
    }

    public int highestCell() {
        return now.hill.findHighest();
    }

    public int topplesIf(int cell, int stones)
            throws IndexOutOfBoundsException, IllegalArgumentException {
        requireCell(cell);
        requireStones(stones);
        return trial.countByQueue(now.hill, cell, stones);
    }

    public int topplesIfByScan(int cell, int stones)
            throws IndexOutOfBoundsException, IllegalArgumentException {
        requireCell(cell);
        requireStones(stones);
        return trial.countByScan(now.hill, cell, stones);
    }

    // ---- crowns

    public boolean isPeak(int cell) throws IndexOutOfBoundsException {
        requireCell(cell);
        return now.hill.isSummit(cell);
    }

    public int peakCount() {
        return now.hill.countPeaks();
    }

    public int peakAt(int rank) throws NoSuchElementException {
        for (int cell = 0; cell < CELLS; cell++) {
            if (now.hill.isSummit(cell) && now.hill.countPeaksAhead(cell) == rank) {
                return cell;
            }
        }
        throw new NoSuchElementException("no peak has this rank");
    }

    public int crowns(int player) throws IndexOutOfBoundsException {
        requirePlayer(player);
        return now.hill.countPeaksOf(player);
    }

    public int score(int player) throws IndexOutOfBoundsException {
        requirePlayer(player);
        return now.hill.sumPeaksOf(player);
    }

    public int playerAtRank(int rank) throws NoSuchElementException {
        for (int player = 0; player < now.players; player++) {
            if (now.countPlayersAhead(player) == rank) {
                return player;
            }
        }
        throw new NoSuchElementException("no player has this rank");
    }

    public float crownShare(int player) throws IndexOutOfBoundsException, ArithmeticException {
        requirePlayer(player);
        int peaks = now.hill.countPeaks();
        if (peaks == 0) {
            throw new ArithmeticException("there are no peaks");
        }
        return (float) now.hill.countPeaksOf(player) / (float) peaks;
    }

    // ---- totals

    public int toppleTotal() {
        return now.topples;
    }

    public int avalancheCount() {
        return now.avalanches;
    }

    public int largestAvalanche() {
        return now.largest;
    }

    public int placedTotal() {
        return now.placed;
    }

    public int lostTotal() {
        return now.hill.lost;
    }

    public int takenTotal() {
        return now.taken;
    }

    // ---- commands

    public int append(char character) throws IllegalArgumentException, IllegalStateException {
        if (character < 32 || character > 126) {
            throw new IllegalArgumentException("the code of the character is not from 32 to 126");
        }
        if (commandText.signs.length() >= MAX_TEXT) {
            throw new IllegalStateException("the command text is full");
        }
        commandText.signs.append(character);
        return commandText.signs.length();
    }

    public int run() throws IllegalArgumentException, IllegalStateException {
        boolean isCommandText = commandText.readAll();
        commandText.signs.setLength(0);
        if (!isCommandText) {
            lastErrorPosition = commandText.position;
            throw new IllegalArgumentException("the text is not a command text");
        }
        beforeRun.copyFrom(now);
        for (int index = 0; index < commandText.count; index++) {
            Command command = commandText.commands[index];
            if (faultOf(command) != Fault.NO_FAULT) {
                now.copyFrom(beforeRun);
                lastFailedCommand = index;
                throw new IllegalStateException("a command fails");
            }
            carryOut(command);
        }
        keepForUndo(beforeRun);
        return commandText.count;
    }

    public int errorPosition() throws NoSuchElementException {
        if (lastErrorPosition == NONE) {
            throw new NoSuchElementException("no error position was set");
        }
        return lastErrorPosition;
    }

    public int failedCommand() throws NoSuchElementException {
        if (lastFailedCommand == NONE) {
            throw new NoSuchElementException("no command has failed");
        }
        return lastFailedCommand;
    }

    // ---- line, statistics, undo, snapshot

    public int describeRow(int row) throws IndexOutOfBoundsException {
        if (row < 0 || row >= ROWS) {
            throw new IndexOutOfBoundsException("no such row");
        }
        line.setLength(0);
        for (int column = 0; column < COLUMNS; column++) {
            if (column > 0) {
                line.append(' ');
            }
            writeCell(row * COLUMNS + column);
        }
        return line.length();
    }

    public char lineAt(int index) throws IndexOutOfBoundsException {
        if (index < 0 || index >= line.length()) {
            throw new IndexOutOfBoundsException("no such index in the line");
        }
        return line.charAt(index);
    }

    public double meanAvalanche() throws ArithmeticException {
        if (now.avalanches == 0) {
            throw new ArithmeticException("there was no avalanche");
        }
        return (double) now.topples / (double) now.avalanches;
    }

    public boolean isConsistent() {
        int stones = now.hill.countByCells();
        return now.hill.findHighestUnstable() == NONE
                && stones == now.hill.countByLevels()
                && now.placed == stones + now.hill.lost + now.taken
                && doTrialsAgree(1)
                && doTrialsAgree(MAX_STONES_AT_ONCE);
    }

    public int undo() throws IllegalStateException {
        if (undoable == 0) {
            throw new IllegalStateException("there is no change to undo");
        }
        undoable--;
        now.copyFrom(history[(oldestInHistory + undoable) % MAX_UNDO]);
        return undoable;
    }

    public int save() {
        snapshot.copyFrom(now);
        hasSnapshot = true;
        return now.hill.countByCells();
    }

    public int restore() throws IllegalStateException {
        if (!hasSnapshot) {
            throw new IllegalStateException("there is no snapshot");
        }
        now.copyFrom(snapshot);
        undoable = 0;
        return now.hill.countByCells();
    }

    // ---- what the calls share

    private static void throwIfAny(Fault fault) {
        if (fault == Fault.INDEX) {
            throw new IndexOutOfBoundsException("no such player or cell");
        }
        if (fault == Fault.ARGUMENT) {
            throw new IllegalArgumentException("the number is out of its range");
        }
        if (fault == Fault.STATE) {
            throw new IllegalStateException("too many players or stones, or the player rests");
        }
        if (fault == Fault.ELEMENT) {
            throw new NoSuchElementException("there are no stones on the cell");
        }
        if (fault == Fault.OPERATION) {
            throw new UnsupportedOperationException("the player does not have these stones");
        }
    }

    private void requirePlayer(int player) {
        if (!now.hasPlayer(player)) {
            throw new IndexOutOfBoundsException("no such player");
        }
    }

    private static void requireCell(int cell) {
        if (!isCell(cell)) {
            throw new IndexOutOfBoundsException("no such cell");
        }
    }

    private static void requireStones(int stones) {
        if (!isPlaceable(stones)) {
            throw new IllegalArgumentException("the number of stones is not from 1 to 9");
        }
    }

    private static boolean isCell(int cell) {
        return cell >= 0 && cell < CELLS;
    }

    private static boolean isPlaceable(int stones) {
        return stones >= 1 && stones <= MAX_STONES_AT_ONCE;
    }

    private void keepForUndo(State earlier) {
        history[(oldestInHistory + undoable) % MAX_UNDO].copyFrom(earlier);
        if (undoable < MAX_UNDO) {
            undoable++;
        } else {
            oldestInHistory = (oldestInHistory + 1) % MAX_UNDO;
        }
    }

    private Fault faultOf(Command command) {
        switch (command.keyword) {
            case PLAYER:
                return now.faultOfEntry(command.first);
            case DROP:
                return now.faultOfDrop(command.first, command.second, command.third);
            case PILE:
                return now.faultOfPile(command.first, command.second);
            case TAKE:
                return now.faultOfTake(command.first, command.second);
            case SLOPE:
                return now.faultOfSlope(command.first);
            default:
                return Fault.NO_FAULT;
        }
    }

    private void carryOut(Command command) {
        switch (command.keyword) {
            case PLAYER:
                now.enterPlayer(command.first);
                break;
            case DROP:
                now.dropStones(command.first, command.second, command.third);
                break;
            case PILE:
                now.pileStones(command.first, command.second);
                break;
            case TAKE:
                now.takeStone(command.first, command.second);
                break;
            case SKIP:
                now.passRound(NOBODY);
                break;
            case SLOPE:
                now.changeSlope(command.first);
                break;
            default:
                now.changeBorder(command.keyword == Keyword.OPEN);
                break;
        }
    }

    private boolean doTrialsAgree(int stones) {
        for (int cell = 0; cell < CELLS; cell++) {
            int byQueue = trial.countByQueue(now.hill, cell, stones);
            if (byQueue != trial.countByScan(now.hill, cell, stones)) {
                return false;
            }
        }
        return true;
    }

    private void writeCell(int cell) {
        line.append(now.hill.heights[cell]);
        if (now.hill.owners[cell] != NOBODY) {
            line.append((char) ('a' + now.hill.owners[cell]));
        }
        if (now.hill.isSummit(cell)) {
            line.append('*');
        }
    }

    /** What stands against a call, named after the exception that is due. */
    private enum Fault {
        NO_FAULT,
        INDEX,
        ARGUMENT,
        STATE,
        ELEMENT,
        OPERATION
    }

    /** The heights and owners of the cells, and the rules by which stones topple. */
    private static final class Hill {
        /** One longer than the cells: the outside has a height too, which is always 0. */
        private final int[] heights = new int[CELLS + 1];

        private final int[] owners = new int[CELLS];
        private int slope = INITIAL_SLOPE;
        private boolean isOpen;
        private int lost;

        Hill() {
            for (int cell = 0; cell < CELLS; cell++) {
                owners[cell] = NOBODY;
            }
        }

        void copyFrom(Hill other) {
            System.arraycopy(other.heights, 0, heights, 0, CELLS + 1);
            System.arraycopy(other.owners, 0, owners, 0, CELLS);
            slope = other.slope;
            isOpen = other.isOpen;
            lost = other.lost;
        }

        void place(int cell, int stones, int player) {
            heights[cell] += stones;
            owners[cell] = player;
        }

        void removeStone(int cell) {
            heights[cell]--;
            if (heights[cell] == 0) {
                owners[cell] = NOBODY;
            }
        }

        int findLowestNeighbour(int cell) {
            int lowest = NEIGHBOURS[cell * SIDES];
            for (int side = 1; side < SIDES; side++) {
                int neighbour = NEIGHBOURS[cell * SIDES + side];
                boolean counts = neighbour != OUTSIDE || isOpen;
                if (counts && heights[neighbour] < heights[lowest]) {
                    lowest = neighbour;
                }
            }
            return lowest;
        }

        int steepnessOf(int cell) {
            return heights[cell] - heights[findLowestNeighbour(cell)];
        }

        int findHighestUnstable() {
            int highest = NONE;
            for (int cell = 0; cell < CELLS; cell++) {
                boolean isHigher = highest == NONE || heights[cell] > heights[highest];
                if (isHigher && steepnessOf(cell) >= slope) {
                    highest = cell;
                }
            }
            return highest;
        }

        /** Answers where the stone went. */
        int topple(int cell) {
            int receiver = findLowestNeighbour(cell);
            int player = owners[cell];
            removeStone(cell);
            if (receiver == OUTSIDE) {
                lost++;
            } else {
                place(receiver, 1, player);
            }
            return receiver;
        }

        /** Answers how often a cell toppled. */
        int comeToRest() {
            int topples = 0;
            while (topples < MAX_TOPPLES) {
                int cell = findHighestUnstable();
                if (cell == NONE) {
                    break;
                }
                topple(cell);
                topples++;
            }
            return topples;
        }

        int countByCells() {
            int stones = 0;
            for (int cell = 0; cell < CELLS; cell++) {
                stones += heights[cell];
            }
            return stones;
        }

        int countByLevels() {
            int stones = 0;
            int top = heights[findHighest()];
            for (int level = 1; level <= top; level++) {
                for (int cell = 0; cell < CELLS; cell++) {
                    if (heights[cell] >= level) {
                        stones++;
                    }
                }
            }
            return stones;
        }

        int findHighest() {
            int highest = 0;
            for (int cell = 1; cell < CELLS; cell++) {
                if (heights[cell] > heights[highest]) {
                    highest = cell;
                }
            }
            return highest;
        }

        boolean isSummit(int cell) {
            if (heights[cell] == 0) {
                return false;
            }
            for (int side = 0; side < SIDES; side++) {
                // The outside is no hindrance: its height 0 is below that of any peak.
                if (heights[NEIGHBOURS[cell * SIDES + side]] >= heights[cell]) {
                    return false;
                }
            }
            return true;
        }

        int countPeaks() {
            int peaks = 0;
            for (int cell = 0; cell < CELLS; cell++) {
                if (isSummit(cell)) {
                    peaks++;
                }
            }
            return peaks;
        }

        int countPeaksAhead(int peak) {
            int ahead = 0;
            for (int cell = 0; cell < CELLS; cell++) {
                boolean comesFirst =
                        heights[cell] > heights[peak]
                                || heights[cell] == heights[peak] && cell < peak;
                if (comesFirst && isSummit(cell)) {
                    ahead++;
                }
            }
            return ahead;
        }

        int countPeaksOf(int player) {
            int peaks = 0;
            for (int cell = 0; cell < CELLS; cell++) {
                if (owners[cell] == player && isSummit(cell)) {
                    peaks++;
                }
            }
            return peaks;
        }

        int sumPeaksOf(int player) {
            int sum = 0;
            for (int cell = 0; cell < CELLS; cell++) {
                if (owners[cell] == player && isSummit(cell)) {
                    sum += heights[cell];
                }
            }
            return sum;
        }
    }

    /** Everything that changes can change, and so all that is undone and saved. */
    private static final class State {
        private final Hill hill = new Hill();
        private final int[] hands = new int[MAX_PLAYERS];
        private final int[] rests = new int[MAX_PLAYERS];
        private int players;
        private int topples;
        private int avalanches;
        private int largest;
        private int placed;
        private int taken;

        void copyFrom(State other) {
            hill.copyFrom(other.hill);
            System.arraycopy(other.hands, 0, hands, 0, MAX_PLAYERS);
            System.arraycopy(other.rests, 0, rests, 0, MAX_PLAYERS);
            players = other.players;
            topples = other.topples;
            avalanches = other.avalanches;
            largest = other.largest;
            placed = other.placed;
            taken = other.taken;
        }

        boolean hasPlayer(int player) {
            return player >= 0 && player < players;
        }

        Fault faultOfEntry(int stones) {
            if (stones < 1 || stones > MAX_STONES_AT_ENTRY) {
                return Fault.ARGUMENT;
            }
            return players >= MAX_PLAYERS ? Fault.STATE : Fault.NO_FAULT;
        }

        int enterPlayer(int stones) {
            int player = players;
            hands[player] = stones;
            rests[player] = 0;
            players++;
            return player;
        }

        Fault faultOfDrop(int player, int cell, int stones) {
            if (!hasPlayer(player)) {
                return Fault.INDEX;
            }
            Fault fault = faultOfPile(cell, stones);
            if (fault != Fault.NO_FAULT) {
                return fault;
            }
            if (rests[player] > 0) {
                return Fault.STATE;
            }
            return hands[player] < stones ? Fault.OPERATION : Fault.NO_FAULT;
        }

        int dropStones(int player, int cell, int stones) {
            passRound(player);
            hands[player] -= stones;
            placed += stones;
            hill.place(cell, stones, player);
            int fallen = countAvalanche(hill.comeToRest());
            if (fallen > 0) {
                rests[player] = fallen / TOPPLES_PER_ROUND;
            }
            return fallen;
        }

        Fault faultOfPile(int cell, int stones) {
            if (!isCell(cell)) {
                return Fault.INDEX;
            }
            if (!isPlaceable(stones)) {
                return Fault.ARGUMENT;
            }
            boolean isTooMuch = hill.countByCells() + stones > MAX_STONES_ON_HILL;
            return isTooMuch ? Fault.STATE : Fault.NO_FAULT;
        }

        int pileStones(int cell, int stones) {
            placed += stones;
            hill.place(cell, stones, NOBODY);
            return countAvalanche(hill.comeToRest());
        }

        Fault faultOfTake(int player, int cell) {
            if (!hasPlayer(player) || !isCell(cell)) {
                return Fault.INDEX;
            }
            if (hill.heights[cell] == 0) {
                return Fault.ELEMENT;
            }
            return hill.owners[cell] != player ? Fault.OPERATION : Fault.NO_FAULT;
        }

        int takeStone(int player, int cell) {
            hill.removeStone(cell);
            hands[player]++;
            taken++;
            return countAvalanche(hill.comeToRest());
        }

        /** The rest of every player but the one named decreases. */
        void passRound(int exempt) {
            for (int player = 0; player < players; player++) {
                if (player != exempt && rests[player] > 0) {
                    rests[player]--;
                }
            }
        }

        int countResting() {
            int resting = 0;
            for (int player = 0; player < players; player++) {
                if (rests[player] > 0) {
                    resting++;
                }
            }
            return resting;
        }

        Fault faultOfSlope(int slope) {
            boolean isSlope = slope >= MIN_SLOPE && slope <= MAX_SLOPE;
            return isSlope ? Fault.NO_FAULT : Fault.ARGUMENT;
        }

        int changeSlope(int slope) {
            hill.slope = slope;
            return countAvalanche(hill.comeToRest());
        }

        void changeBorder(boolean isOpen) {
            hill.isOpen = isOpen;
            countAvalanche(hill.comeToRest());
        }

        private int countAvalanche(int fallen) {
            if (fallen > 0) {
                topples += fallen;
                avalanches++;
                largest = Math.max(largest, fallen);
            }
            return fallen;
        }

        int countPlayersAhead(int player) {
            int ahead = 0;
            for (int other = 0; other < players; other++) {
                if (isAhead(other, player)) {
                    ahead++;
                }
            }
            return ahead;
        }

        private boolean isAhead(int player, int other) {
            int difference = hill.sumPeaksOf(player) - hill.sumPeaksOf(other);
            if (difference == 0) {
                difference = hands[player] - hands[other];
            }
            return difference > 0 || difference == 0 && player < other;
        }
    }

    /** A hill of its own on which stones are piled for a try, and the queue of its unstable cells. */
    private static final class Trial {
        private final Hill hill = new Hill();

        /** A priority queue: in the order in which the cells topple, the next one first. */
        private final int[] queue = new int[CELLS];

        private int size;

        int countByScan(Hill original, int cell, int stones) {
            begin(original, cell, stones);
            return hill.comeToRest();
        }

        int countByQueue(Hill original, int cell, int stones) {
            begin(original, cell, stones);
            fillQueue();
            int topples = 0;
            while (topples < MAX_TOPPLES && size > 0) {
                int toppled = removeFirst();
                int receiver = hill.topple(toppled);
                // The receiver comes first: it alone may stand in the queue with a changed height.
                if (receiver != OUTSIDE) {
                    refreshAround(receiver);
                }
                refreshAround(toppled);
                topples++;
            }
            return topples;
        }

        private void begin(Hill original, int cell, int stones) {
            hill.copyFrom(original);
            hill.place(cell, stones, NOBODY);
        }

        private void fillQueue() {
            size = 0;
            for (int cell = 0; cell < CELLS; cell++) {
                refresh(cell);
            }
        }

        /** Called only for a queue that is not empty. */
        private int removeFirst() {
            int first = queue[0];
            remove(first);
            return first;
        }

        private void refreshAround(int cell) {
            refresh(cell);
            for (int side = 0; side < SIDES; side++) {
                int neighbour = NEIGHBOURS[cell * SIDES + side];
                if (neighbour != OUTSIDE) {
                    refresh(neighbour);
                }
            }
        }

        private void refresh(int cell) {
            remove(cell);
            if (hill.steepnessOf(cell) >= hill.slope) {
                insert(cell);
            }
        }

        private void remove(int cell) {
            int kept = 0;
            for (int i = 0; i < size; i++) {
                if (queue[i] != cell) {
                    queue[kept] = queue[i];
                    kept++;
                }
            }
            size = kept;
        }

        /** Called only for a cell that is not in the queue, so that there is room for it. */
        private void insert(int cell) {
            int slot = size;
            while (slot > 0 && comesBefore(cell, queue[slot - 1])) {
                queue[slot] = queue[slot - 1];
                slot--;
            }
            queue[slot] = cell;
            size++;
        }

        private boolean comesBefore(int cell, int other) {
            int difference = hill.heights[cell] - hill.heights[other];
            return difference > 0 || difference == 0 && cell < other;
        }
    }

    /** The words of the commands; no word begins another one. */
    private enum Keyword {
        PLAYER("player", " n"),
        DROP("drop", " d n d"),
        PILE("pile", " n d"),
        TAKE("take", " d n"),
        SKIP("skip", ""),
        SLOPE("slope", " d"),
        OPEN("open", ""),
        CLOSE("close", "");

        private final String word;

        /** What follows the word: d stands for a digit, n for a number, a blank for itself. */
        private final String form;

        Keyword(String word, String form) {
            this.word = word;
            this.form = form;
        }
    }

    /** A command that has been read: its word and its numbers in their order. */
    private static final class Command {
        private Keyword keyword = Keyword.SKIP;
        private int first;
        private int second;
        private int third;

        void setNumber(int place, int number) {
            if (place == 0) {
                first = number;
            } else if (place == 1) {
                second = number;
            } else {
                third = number;
            }
        }
    }

    /** The buffer of the command text, and the reader of its commands. */
    private static final class CommandText {
        private final StringBuilder signs = new StringBuilder();
        private final Command[] commands = new Command[MAX_COMMANDS];
        private int count;

        /** How far the reader has come; where it fails, the error position. */
        private int position;

        CommandText() {
            for (int i = 0; i < MAX_COMMANDS; i++) {
                commands[i] = new Command();
            }
        }

        /** Answers whether the whole text is a command text. */
        boolean readAll() {
            position = 0;
            count = 0;
            while (count < MAX_COMMANDS) {
                if (!readCommand(commands[count])) {
                    return false;
                }
                count++;
                if (position == signs.length()) {
                    return true;
                }
                if (!readSign(';')) {
                    return false;
                }
            }
            return false;
        }

        private boolean readCommand(Command command) {
            if (!readKeyword(command)) {
                return false;
            }
            String form = command.keyword.form;
            int place = 0;
            for (int i = 0; i < form.length(); i++) {
                if (form.charAt(i) == ' ') {
                    if (!readSign(' ')) {
                        return false;
                    }
                } else {
                    if (!isDigitNext()) {
                        return false;
                    }
                    command.setNumber(place, readNumber(form.charAt(i) == 'n'));
                    place++;
                }
            }
            return true;
        }

        private boolean readKeyword(Command command) {
            int longest = 0;
            for (Keyword keyword : KEYWORDS) {
                int alike = countAlike(keyword.word);
                if (alike == keyword.word.length()) {
                    position += alike;
                    command.keyword = keyword;
                    return true;
                }
                longest = Math.max(longest, alike);
            }
            position += longest;
            return false;
        }

        private int countAlike(String word) {
            int alike = 0;
            while (alike < word.length()
                    && position + alike < signs.length()
                    && signs.charAt(position + alike) == word.charAt(alike)) {
                alike++;
            }
            return alike;
        }

        private boolean readSign(char sign) {
            if (position >= signs.length() || signs.charAt(position) != sign) {
                return false;
            }
            position++;
            return true;
        }

        private boolean isDigitNext() {
            return position < signs.length()
                    && signs.charAt(position) >= '0'
                    && signs.charAt(position) <= '9';
        }

        private int readNumber(boolean mayHaveTwoDigits) {
            int number = readDigit();
            if (mayHaveTwoDigits && isDigitNext()) {
                number = 10 * number + readDigit();
            }
            return number;
        }

        /** Called only where a digit is next. */
        private int readDigit() {
            int digit = signs.charAt(position) - '0';
            position++;
            return digit;
        }
    }
}
