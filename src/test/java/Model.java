import java.util.ArrayDeque;
import java.util.ArrayList;
import java.util.Comparator;
import java.util.Deque;
import java.util.HashMap;
import java.util.List;
import java.util.Map;
import java.util.NoSuchElementException;
import java.util.TreeSet;
import java.util.regex.Matcher;
import java.util.regex.Pattern;

/**
 * The document told a second time, by other means than the program's (the Java library's), so that
 * both can be asked the same things. Speed and memory do not matter here.
 */
final class Model {
    private static final Pattern TEXT = Pattern.compile(
            "(C(;C)*)".replace("C",
                    "(player \\d\\d?|drop \\d \\d\\d? \\d|pile \\d\\d? \\d|take \\d \\d\\d?"
                            + "|skip|slope \\d|open|close)"));

    /** A player's number, or -1 for nobody, for each cell that has stones. */
    record World(
            Map<Integer, Integer> heights,
            Map<Integer, Integer> owners,
            List<Integer> hands,
            List<Integer> rests,
            int slope,
            boolean open,
            List<Integer> avalanches,
            int placed,
            int lost,
            int taken) {}

    private Map<Integer, Integer> heights = new HashMap<>();
    private Map<Integer, Integer> owners = new HashMap<>();
    private List<Integer> hands = new ArrayList<>();
    private List<Integer> rests = new ArrayList<>();
    private int slope = 3;
    private boolean open;
    private List<Integer> avalanches = new ArrayList<>();
    private int placed;
    private int lost;
    private int taken;

    private final Deque<World> past = new ArrayDeque<>();
    private World saved;
    private String text = "";
    private String line = "";
    private Integer error;
    private Integer failed;

    private World world() {
        return new World(new HashMap<>(heights), new HashMap<>(owners), new ArrayList<>(hands),
                new ArrayList<>(rests), slope, open, new ArrayList<>(avalanches), placed, lost, taken);
    }

    private void become(World w) {
        heights = new HashMap<>(w.heights);
        owners = new HashMap<>(w.owners);
        hands = new ArrayList<>(w.hands);
        rests = new ArrayList<>(w.rests);
        slope = w.slope;
        open = w.open;
        avalanches = new ArrayList<>(w.avalanches);
        placed = w.placed;
        lost = w.lost;
        taken = w.taken;
    }

    private void changed(World before) {
        past.addLast(before);
        if (past.size() > 8) {
            past.removeFirst();
        }
    }

    private static void unless(boolean good, RuntimeException due) {
        if (!good) {
            throw due;
        }
    }

    private void player(int player) {
        unless(0 <= player && player < hands.size(), new IndexOutOfBoundsException());
    }

    private static void cell(int cell) {
        unless(0 <= cell && cell <= 24, new IndexOutOfBoundsException());
    }

    private int at(int cell) {
        return heights.getOrDefault(cell, 0);
    }

    private List<Integer> cellsAround(int cell) {
        List<Integer> around = new ArrayList<>();
        for (int other = 0; other < 25; other++) {
            int rows = Math.abs(cell / 5 - other / 5);
            int columns = Math.abs(cell % 5 - other % 5);
            if (rows + columns == 1) {
                around.add(other);
            }
        }
        return around;
    }

    int lowestNeighbour(int cell) {
        cell(cell);
        List<Integer> around = cellsAround(cell);
        if (open && around.size() < 4) {
            around.add(25);
        }
        return around.stream().min(Comparator.<Integer>comparingInt(this::at)
                .thenComparingInt(c -> c)).get();
    }

    int steepness(int cell) {
        return at(cell) - at(lowestNeighbour(cell));
    }

    private void put(int cell, int stones, int player) {
        heights.merge(cell, stones, Integer::sum);
        owners.put(cell, player);
    }

    private void lift(int cell) {
        heights.merge(cell, -1, Integer::sum);
        if (at(cell) == 0) {
            heights.remove(cell);
            owners.remove(cell);
        }
    }

    private int settle() {
        int topples = 0;
        while (true) {
            TreeSet<Integer> unstable = new TreeSet<>(
                    Comparator.<Integer>comparingInt(c -> -at(c)).thenComparingInt(c -> c));
            for (int cell = 0; cell < 25; cell++) {
                if (steepness(cell) >= slope) {
                    unstable.add(cell);
                }
            }
            if (unstable.isEmpty()) {
                break;
            }
            int from = unstable.first();
            int to = lowestNeighbour(from);
            int player = owners.get(from);
            lift(from);
            if (to == 25) {
                lost++;
            } else {
                put(to, 1, player);
            }
            topples++;
        }
        if (topples > 0) {
            avalanches.add(topples);
        }
        return topples;
    }

    private void decrease(int exempt) {
        for (int p = 0; p < rests.size(); p++) {
            if (p != exempt) {
                rests.set(p, Math.max(0, rests.get(p) - 1));
            }
        }
    }

    // The changes themselves, without their place in the history.

    private int doAddPlayer(int stones) {
        unless(1 <= stones && stones <= 60, new IllegalArgumentException());
        unless(hands.size() < 4, new IllegalStateException());
        hands.add(stones);
        rests.add(0);
        return hands.size() - 1;
    }

    private int doDrop(int player, int cell, int stones) {
        player(player);
        cell(cell);
        unless(1 <= stones && stones <= 9, new IllegalArgumentException());
        unless(rests.get(player) == 0, new IllegalStateException());
        unless(stonesOnHill() + stones <= 300, new IllegalStateException());
        unless(hands.get(player) >= stones, new UnsupportedOperationException());
        decrease(player);
        hands.set(player, hands.get(player) - stones);
        placed += stones;
        put(cell, stones, player);
        int topples = settle();
        if (topples > 0) {
            rests.set(player, topples / 4);
        }
        return topples;
    }

    private int doPile(int cell, int stones) {
        cell(cell);
        unless(1 <= stones && stones <= 9, new IllegalArgumentException());
        unless(stonesOnHill() + stones <= 300, new IllegalStateException());
        placed += stones;
        put(cell, stones, -1);
        return settle();
    }

    private int doTake(int player, int cell) {
        player(player);
        cell(cell);
        unless(at(cell) > 0, new NoSuchElementException());
        unless(owners.get(cell) == player, new UnsupportedOperationException());
        lift(cell);
        hands.set(player, hands.get(player) + 1);
        taken++;
        return settle();
    }

    private int doSkip() {
        decrease(-1);
        return (int) rests.stream().filter(r -> r > 0).count();
    }

    private int doSetSlope(int newSlope) {
        unless(2 <= newSlope && newSlope <= 6, new IllegalArgumentException());
        slope = newSlope;
        return settle();
    }

    private boolean doSetBorder(boolean isOpen) {
        boolean was = open;
        open = isOpen;
        settle();
        return was;
    }

    // The face.

    int addPlayer(int stones) {
        World before = world();
        int answer = doAddPlayer(stones);
        changed(before);
        return answer;
    }

    int drop(int player, int cell, int stones) {
        World before = world();
        int answer = doDrop(player, cell, stones);
        changed(before);
        return answer;
    }

    int pile(int cell, int stones) {
        World before = world();
        int answer = doPile(cell, stones);
        changed(before);
        return answer;
    }

    int take(int player, int cell) {
        World before = world();
        int answer = doTake(player, cell);
        changed(before);
        return answer;
    }

    int skip() {
        World before = world();
        int answer = doSkip();
        changed(before);
        return answer;
    }

    int setSlope(int newSlope) {
        World before = world();
        int answer = doSetSlope(newSlope);
        changed(before);
        return answer;
    }

    boolean setBorder(boolean isOpen) {
        World before = world();
        boolean answer = doSetBorder(isOpen);
        changed(before);
        return answer;
    }

    int playerCount() {
        return hands.size();
    }

    int hand(int player) {
        player(player);
        return hands.get(player);
    }

    int rest(int player) {
        player(player);
        return rests.get(player);
    }

    int criticalSlope() {
        return slope;
    }

    boolean isBorderOpen() {
        return open;
    }

    int height(int cell) {
        cell(cell);
        return at(cell);
    }

    int owner(int cell) {
        cell(cell);
        unless(owners.getOrDefault(cell, -1) != -1, new NoSuchElementException());
        return owners.get(cell);
    }

    int stonesOnHill() {
        return heights.values().stream().mapToInt(h -> h).sum();
    }

    int highestCell() {
        int highest = 24;
        for (int cell = 23; cell >= 0; cell--) {
            if (at(cell) >= at(highest)) {
                highest = cell;
            }
        }
        return highest;
    }

    int topplesIf(int cell, int stones) {
        cell(cell);
        unless(1 <= stones && stones <= 9, new IllegalArgumentException());
        World before = world();
        put(cell, stones, -1);
        int answer = settle();
        become(before);
        return answer;
    }

    boolean isPeak(int cell) {
        cell(cell);
        return at(cell) > 0 && cellsAround(cell).stream().allMatch(other -> at(other) < at(cell));
    }

    private List<Integer> peaks() {
        List<Integer> peaks = new ArrayList<>();
        for (int cell = 0; cell < 25; cell++) {
            if (isPeak(cell)) {
                peaks.add(cell);
            }
        }
        peaks.sort(Comparator.<Integer>comparingInt(c -> -at(c)));
        return peaks;
    }

    int peakCount() {
        return peaks().size();
    }

    int peakAt(int rank) {
        unless(0 <= rank && rank < peaks().size(), new NoSuchElementException());
        return peaks().get(rank);
    }

    int crowns(int player) {
        player(player);
        return (int) peaks().stream().filter(c -> owners.get(c) == player).count();
    }

    int score(int player) {
        player(player);
        return peaks().stream().filter(c -> owners.get(c) == player).mapToInt(this::at).sum();
    }

    int playerAtRank(int rank) {
        List<Integer> players = new ArrayList<>();
        for (int p = 0; p < hands.size(); p++) {
            players.add(p);
        }
        players.sort(Comparator.<Integer>comparingInt(p -> -score(p))
                .thenComparingInt(p -> -hands.get(p)));
        unless(0 <= rank && rank < players.size(), new NoSuchElementException());
        return players.get(rank);
    }

    float crownShare(int player) {
        player(player);
        unless(peakCount() > 0, new ArithmeticException());
        return (float) crowns(player) / (float) peakCount();
    }

    int toppleTotal() {
        return avalanches.stream().mapToInt(a -> a).sum();
    }

    int avalancheCount() {
        return avalanches.size();
    }

    int largestAvalanche() {
        return avalanches.stream().mapToInt(a -> a).max().orElse(0);
    }

    int placedTotal() {
        return placed;
    }

    int lostTotal() {
        return lost;
    }

    int takenTotal() {
        return taken;
    }

    int append(char character) {
        unless(character >= ' ' && character <= '~', new IllegalArgumentException());
        unless(text.length() < 60, new IllegalStateException());
        text += character;
        return text.length();
    }

    int run() {
        String all = text;
        text = "";
        Matcher whole = TEXT.matcher(all);
        if (!whole.matches()) {
            error = viableLength(all);
            throw new IllegalArgumentException();
        }
        World before = world();
        String[] commands = all.split(";");
        for (int i = 0; i < commands.length; i++) {
            try {
                command(commands[i].split(" "));
            } catch (RuntimeException e) {
                become(before);
                failed = i;
                throw new IllegalStateException();
            }
        }
        changed(before);
        return commands.length;
    }

    /** A text can go on where the matcher ran into its end or already has all of it. */
    private static int viableLength(String all) {
        int viable = 0;
        for (int length = 1; length <= all.length(); length++) {
            Matcher start = TEXT.matcher(all.substring(0, length));
            if (start.matches() || start.hitEnd()) {
                viable = length;
            }
        }
        return viable;
    }

    private void command(String[] words) {
        int[] n = new int[words.length];
        for (int i = 1; i < words.length; i++) {
            n[i] = Integer.parseInt(words[i]);
        }
        switch (words[0]) {
            case "player" -> doAddPlayer(n[1]);
            case "drop" -> doDrop(n[1], n[2], n[3]);
            case "pile" -> doPile(n[1], n[2]);
            case "take" -> doTake(n[1], n[2]);
            case "skip" -> doSkip();
            case "slope" -> doSetSlope(n[1]);
            case "open" -> doSetBorder(true);
            case "close" -> doSetBorder(false);
            default -> throw new AssertionError(words[0]);
        }
    }

    int errorPosition() {
        unless(error != null, new NoSuchElementException());
        return error;
    }

    int failedCommand() {
        unless(failed != null, new NoSuchElementException());
        return failed;
    }

    int describeRow(int row) {
        unless(0 <= row && row <= 4, new IndexOutOfBoundsException());
        List<String> cells = new ArrayList<>();
        for (int cell = 5 * row; cell < 5 * row + 5; cell++) {
            int player = owners.getOrDefault(cell, -1);
            cells.add(at(cell) + (player < 0 ? "" : "abcd".substring(player, player + 1))
                    + (isPeak(cell) ? "*" : ""));
        }
        line = String.join(" ", cells);
        return line.length();
    }

    char lineAt(int index) {
        unless(0 <= index && index < line.length(), new IndexOutOfBoundsException());
        return line.charAt(index);
    }

    double meanAvalanche() {
        unless(!avalanches.isEmpty(), new ArithmeticException());
        return (double) toppleTotal() / (double) avalancheCount();
    }

    int undo() {
        unless(!past.isEmpty(), new IllegalStateException());
        become(past.removeLast());
        return past.size();
    }

    int save() {
        saved = world();
        return stonesOnHill();
    }

    int restore() {
        unless(saved != null, new IllegalStateException());
        become(saved);
        past.clear();
        return stonesOnHill();
    }
}
