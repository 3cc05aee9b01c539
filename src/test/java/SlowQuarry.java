import java.util.ArrayDeque;
import java.util.ArrayList;
import java.util.Arrays;
import java.util.Deque;
import java.util.HashMap;
import java.util.List;
import java.util.Map;
import java.util.NoSuchElementException;
import java.util.TreeSet;
import java.util.regex.Matcher;
import java.util.regex.Pattern;

/** The document once more, written apart from the program and by other ways, to compare answers with. */
final class SlowQuarry {
    private static final Pattern COMMAND = Pattern.compile("(rock|charge|remove|ignite|dig|price|sell)((?: [0-9]+)*)");
    private static final String ONE = "(?:rock(?: [0-9]){3}|charge(?: [0-9]){3}|remove [0-9]|ignite [0-9]"
        + "|dig(?: [0-9]){2}|price(?: [0-9][0-9]?){2}|sell [0-9][0-9]?)";
    private static final Pattern TEXT = Pattern.compile(ONE + "(?:;" + ONE + ")*");

    private static final class State {
        int[][] wall = new int[6][6];
        List<int[]> charges = new ArrayList<>();
        int[] prices = new int[11];
        int quarried;
        int sold;
        long coins;

        State copy() {
            State s = new State();
            for (int r = 0; r < 6; r++) {
                s.wall[r] = wall[r].clone();
            }
            s.charges = new ArrayList<>(charges);
            s.prices = prices.clone();
            s.quarried = quarried;
            s.sold = sold;
            s.coins = coins;
            return s;
        }
    }

    private State s = new State();
    private State saved;
    private Deque<State> undos = new ArrayDeque<>();
    private String buffer = "";
    private String line = "";
    private int error = -1;
    private int failed = -1;

    SlowQuarry() {
        for (int[] row : s.wall) {
            Arrays.fill(row, 5);
        }
    }

    private static void check(boolean holds, RuntimeException otherwise) {
        if (!holds) {
            throw otherwise;
        }
    }

    private static void argument(boolean holds) {
        check(holds, new IllegalArgumentException());
    }

    private static void state(boolean holds) {
        check(holds, new IllegalStateException());
    }

    private static boolean cell(int r, int c) {
        return 0 <= r && r <= 5 && 0 <= c && c <= 5;
    }

    private void cellExists(int r, int c) {
        argument(cell(r, c));
    }

    private void chargeExists(int charge) {
        check(charge >= 0 && charge < s.charges.size(), new IndexOutOfBoundsException());
    }

    private void modifying() {
        undos.addLast(s.copy());
        if (undos.size() > 8) {
            undos.removeFirst();
        }
    }

    int setHardness(int r, int c, int h) {
        cellExists(r, c);
        argument(1 <= h && h <= 9);
        state(s.wall[r][c] > 0);
        modifying();
        int old = s.wall[r][c];
        s.wall[r][c] = h;
        return old;
    }

    private boolean charged(int r, int c) {
        return s.charges.stream().anyMatch(k -> k[0] == r && k[1] == c);
    }

    private boolean open(int r, int c) {
        return cell(r, c) && s.wall[r][c] == 0;
    }

    long dig(int r, int c) {
        cellExists(r, c);
        state(!open(r, c));
        state(!charged(r, c));
        state(c == 0 || open(r - 1, c) || open(r + 1, c) || open(r, c - 1) || open(r, c + 1));
        check(s.coins >= s.wall[r][c], new UnsupportedOperationException());
        modifying();
        s.coins -= s.wall[r][c];
        s.quarried += s.wall[r][c];
        s.wall[r][c] = 0;
        return s.coins;
    }

    int hardnessOf(int r, int c) {
        cellExists(r, c);
        state(!open(r, c));
        return s.wall[r][c];
    }

    boolean isOpen(int r, int c) {
        cellExists(r, c);
        return open(r, c);
    }

    int openCount() {
        return (int) Arrays.stream(s.wall).flatMapToInt(Arrays::stream).filter(h -> h == 0).count();
    }

    /** Gives every cell the least number of a cell of its vein. */
    private int[][] veins() {
        int[][] label = new int[6][6];
        for (int i = 0; i < 36; i++) {
            label[i / 6][i % 6] = i;
        }
        for (int round = 0; round < 36; round++) {
            for (int r = 0; r < 6; r++) {
                for (int c = 0; c < 6; c++) {
                    if (r < 5 && s.wall[r][c] == s.wall[r + 1][c]) {
                        label[r][c] = label[r + 1][c] = Math.min(label[r][c], label[r + 1][c]);
                    }
                    if (c < 5 && s.wall[r][c] == s.wall[r][c + 1]) {
                        label[r][c] = label[r][c + 1] = Math.min(label[r][c], label[r][c + 1]);
                    }
                }
            }
        }
        return label;
    }

    int veinCount(int h) {
        argument(1 <= h && h <= 9);
        int[][] label = veins();
        TreeSet<Integer> names = new TreeSet<>();
        for (int i = 0; i < 36; i++) {
            if (s.wall[i / 6][i % 6] == h) {
                names.add(label[i / 6][i % 6]);
            }
        }
        return names.size();
    }

    int veinSize(int r, int c) {
        cellExists(r, c);
        state(!open(r, c));
        int[][] label = veins();
        int name = label[r][c];
        return (int) Arrays.stream(label).flatMapToInt(Arrays::stream).filter(k -> k == name).count();
    }

    int addCharge(int r, int c, int strength) {
        cellExists(r, c);
        argument(1 <= strength && strength <= 9);
        state(s.charges.size() < 6 && !open(r, c) && !charged(r, c));
        modifying();
        s.charges.add(new int[] {r, c, strength});
        return s.charges.size() - 1;
    }

    int removeCharge(int charge) {
        chargeExists(charge);
        modifying();
        s.charges.remove(charge);
        return s.charges.size();
    }

    private boolean hits(int[] charge, int r, int c) {
        return s.wall[r][c] > 0 && s.wall[r][c] + Math.abs(r - charge[0]) + Math.abs(c - charge[1]) <= charge[2];
    }

    private void chain(int charge, TreeSet<Integer> gone) {
        if (gone.add(charge)) {
            for (int other = 0; other < s.charges.size(); other++) {
                if (hits(s.charges.get(charge), s.charges.get(other)[0], s.charges.get(other)[1])) {
                    chain(other, gone);
                }
            }
        }
    }

    private TreeSet<Integer> chain(int charge) {
        chargeExists(charge);
        TreeSet<Integer> gone = new TreeSet<>();
        chain(charge, gone);
        return gone;
    }

    private List<int[]> opened(int charge) {
        TreeSet<Integer> gone = chain(charge);
        List<int[]> cells = new ArrayList<>();
        for (int r = 0; r < 6; r++) {
            for (int c = 0; c < 6; c++) {
                int row = r;
                int column = c;
                if (gone.stream().anyMatch(k -> hits(s.charges.get(k), row, column))) {
                    cells.add(new int[] {r, c});
                }
            }
        }
        return cells;
    }

    int ignite(int charge) {
        List<int[]> cells = opened(charge);
        TreeSet<Integer> gone = chain(charge);
        modifying();
        for (int[] k : cells) {
            s.quarried += s.wall[k[0]][k[1]];
            s.wall[k[0]][k[1]] = 0;
        }
        for (int number : gone.descendingSet()) {
            s.charges.remove(number);
        }
        return cells.size();
    }

    int chargeCount() {
        return s.charges.size();
    }

    int charge(int charge, int part) {
        chargeExists(charge);
        return s.charges.get(charge)[part];
    }

    int chainOf(int charge) {
        return chain(charge).size();
    }

    int opensOf(int charge) {
        return opened(charge).size();
    }

    int bestCharge() {
        check(!s.charges.isEmpty(), new NoSuchElementException());
        int best = s.charges.size() - 1;
        for (int charge = best; charge >= 0; charge--) {
            best = opensOf(charge) >= opensOf(best) ? charge : best;
        }
        return best;
    }

    /** The shortest ways between all pairs of cells, each without the cost of its first cell. */
    int tunnelCost() {
        int[][] way = new int[36][36];
        for (int i = 0; i < 36; i++) {
            for (int j = 0; j < 36; j++) {
                boolean next = Math.abs(i / 6 - j / 6) + Math.abs(i % 6 - j % 6) == 1;
                way[i][j] = i == j ? 0 : next ? s.wall[j / 6][j % 6] : 10000;
            }
        }
        for (int k = 0; k < 36; k++) {
            for (int i = 0; i < 36; i++) {
                for (int j = 0; j < 36; j++) {
                    way[i][j] = Math.min(way[i][j], way[i][k] + way[k][j]);
                }
            }
        }
        int least = 10000;
        for (int a = 0; a < 6; a++) {
            for (int b = 0; b < 6; b++) {
                least = Math.min(least, s.wall[a][0] + way[a * 6][b * 6 + 5]);
            }
        }
        return least;
    }

    int mostSlabs() {
        long mask = 0;
        for (int i = 0; i < 36; i++) {
            mask |= open(i / 6, i % 6) ? 1L << i : 0;
        }
        return slabs(mask, new HashMap<>());
    }

    private static int slabs(long mask, Map<Long, Integer> known) {
        if (mask == 0) {
            return 0;
        }
        Integer old = known.get(mask);
        if (old != null) {
            return old;
        }
        int i = Long.numberOfTrailingZeros(mask);
        long rest = mask & ~(1L << i);
        int best = slabs(rest, known);
        if (i % 6 < 5 && (rest >> i + 1 & 1) == 1) {
            best = Math.max(best, 1 + slabs(rest & ~(1L << i + 1), known));
        }
        if ((rest >> i + 6 & 1) == 1) {
            best = Math.max(best, 1 + slabs(rest & ~(1L << i + 6), known));
        }
        known.put(mask, best);
        return best;
    }

    int largestBlock() {
        int[][] sums = new int[7][7];
        for (int r = 0; r < 6; r++) {
            for (int c = 0; c < 6; c++) {
                sums[r + 1][c + 1] = sums[r][c + 1] + sums[r + 1][c] - sums[r][c] + (open(r, c) ? 1 : 0);
            }
        }
        int best = 0;
        for (int i = 0; i < 7 * 7 * 7 * 7; i++) {
            int a = i % 7;
            int b = i / 7 % 7;
            int c = i / 49 % 7;
            int d = i / 343;
            if (a < b && c < d) {
                int size = (b - a) * (d - c);
                best = sums[b][d] - sums[a][d] - sums[b][c] + sums[a][c] == size ? Math.max(best, size) : best;
            }
        }
        return best;
    }

    int setPrice(int length, int price) {
        argument(1 <= length && length <= 10 && 0 <= price && price <= 99);
        modifying();
        int old = s.prices[length];
        s.prices[length] = price;
        return old;
    }

    int priceOf(int length) {
        argument(1 <= length && length <= 10);
        return s.prices[length];
    }

    /** The most coins and the fewest pieces for them, from the best cuts with just k pieces. */
    private int[] cut(int length) {
        argument(1 <= length && length <= 30);
        int[][] most = new int[31][31];
        for (int[] row : most) {
            Arrays.fill(row, -1);
        }
        most[0][0] = 0;
        int[] best = {-1, 0};
        for (int k = 1; k <= length; k++) {
            for (int bar = k; bar <= length; bar++) {
                for (int piece = 1; piece <= Math.min(10, bar); piece++) {
                    if (most[k - 1][bar - piece] >= 0) {
                        most[k][bar] = Math.max(most[k][bar], most[k - 1][bar - piece] + s.prices[piece]);
                    }
                }
            }
            if (most[k][length] > best[0]) {
                best = new int[] {most[k][length], k};
            }
        }
        return best;
    }

    int bestCut(int length) {
        return cut(length)[0];
    }

    int fewestPieces(int length) {
        return cut(length)[1];
    }

    int sell(int length) {
        int coins = bestCut(length);
        check(stone() >= length, new UnsupportedOperationException());
        modifying();
        s.sold += length;
        s.coins += coins;
        return coins;
    }

    int stone() {
        return s.quarried - s.sold;
    }

    int quarried() {
        return s.quarried;
    }

    int sold() {
        return s.sold;
    }

    long coins() {
        return s.coins;
    }

    double meanHardness() {
        check(openCount() < 36, new ArithmeticException());
        return Arrays.stream(s.wall).flatMapToInt(Arrays::stream).filter(h -> h > 0).average().orElse(0);
    }

    float openShare() {
        return openCount() / 36f;
    }

    int writeRow(int r) {
        argument(0 <= r && r <= 5);
        line = "";
        for (int c = 0; c < 6; c++) {
            line += charged(r, c) ? "*" : open(r, c) ? "." : "" + s.wall[r][c];
        }
        return line.length();
    }

    int writeCharge(int charge) {
        chargeExists(charge);
        int[] k = s.charges.get(charge);
        line = charge + "@" + k[0] + "," + k[1] + ":" + k[2];
        return line.length();
    }

    char lineAt(int index) {
        check(index >= 0 && index < line.length(), new IndexOutOfBoundsException());
        return line.charAt(index);
    }

    int type(char c) {
        argument(c >= 32 && c <= 126);
        state(buffer.length() < 60);
        buffer += c;
        return buffer.length();
    }

    int execute() {
        String text = buffer;
        buffer = "";
        if (!TEXT.matcher(text).matches()) {
            error = 0;
            while (error < text.length() && canGoOn(text.substring(0, error + 1))) {
                error++;
            }
            throw new IllegalArgumentException();
        }
        State before = s.copy();
        Deque<State> undosBefore = new ArrayDeque<>(undos);
        String[] commands = text.split(";");
        for (int i = 0; i < commands.length; i++) {
            try {
                carryOut(commands[i]);
            } catch (RuntimeException e) {
                s = before;
                undos = undosBefore;
                failed = i;
                throw new IllegalStateException();
            }
        }
        State after = s;
        s = before;
        undos = undosBefore;
        modifying();
        s = after;
        return commands.length;
    }

    private static boolean canGoOn(String start) {
        Matcher matcher = TEXT.matcher(start);
        return matcher.matches() || matcher.hitEnd();
    }

    private void carryOut(String command) {
        Matcher matcher = COMMAND.matcher(command);
        state(matcher.matches());
        int[] n = Arrays.stream(matcher.group(2).trim().split(" ")).mapToInt(Integer::parseInt).toArray();
        switch (matcher.group(1)) {
            case "rock" -> setHardness(n[0], n[1], n[2]);
            case "charge" -> addCharge(n[0], n[1], n[2]);
            case "remove" -> removeCharge(n[0]);
            case "ignite" -> ignite(n[0]);
            case "dig" -> dig(n[0], n[1]);
            case "price" -> setPrice(n[0], n[1]);
            default -> sell(n[0]);
        }
    }

    int errorPosition() {
        check(error >= 0, new NoSuchElementException());
        return error;
    }

    int failedCommand() {
        check(failed >= 0, new NoSuchElementException());
        return failed;
    }

    int undo() {
        state(!undos.isEmpty());
        s = undos.removeLast();
        return undos.size();
    }

    int save() {
        saved = s.copy();
        return s.charges.size();
    }

    int restore() {
        state(saved != null);
        s = saved.copy();
        undos.clear();
        return s.charges.size();
    }
}
