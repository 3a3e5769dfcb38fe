import java.util.ArrayDeque;
import java.util.ArrayList;
import java.util.HashSet;
import java.util.List;
import java.util.NoSuchElementException;
import java.util.Set;
import java.util.regex.Matcher;
import java.util.regex.Pattern;

/**
 * A second reading of the document, written in other ways than the program: grids of rows and
 * columns, levels that are tried one after the other, a regular expression for the grammar.
 */
final class ReferenceMap {
    private static final int[][] DIRECTIONS = {{-1, 0}, {0, 1}, {1, 0}, {0, -1}};
    private static final String COMMAND = "(?:height [0-9][0-9]=[0-9][0-9]?|peg [0-9][0-9]|free [0-9][0-9]|drape"
            + "|pour [0-9][0-9] [0-9][0-9]?|settle|moth [0-9][0-9]|swat [0-9]|night|patch [0-9][0-9])";
    private static final Pattern TEXT = Pattern.compile(COMMAND + "(?:;" + COMMAND + ")*");

    /** What changes can change. */
    private static final class State {
        int[][] height = new int[6][6];
        int[][] water = new int[6][6];
        int[][] wear = new int[6][6];
        boolean[][] peg = new boolean[6][6];
        List<int[]> moths = new ArrayList<>();
        int nights;
        int poured;
        int drained;

        State copy() {
            State copy = new State();
            for (int r = 0; r < 6; r++) {
                copy.height[r] = height[r].clone();
                copy.water[r] = water[r].clone();
                copy.wear[r] = wear[r].clone();
                copy.peg[r] = peg[r].clone();
            }
            for (int[] moth : moths) {
                copy.moths.add(moth.clone());
            }
            copy.nights = nights;
            copy.poured = poured;
            copy.drained = drained;
            return copy;
        }
    }

    private State now = new State();
    private State saved;
    private final ArrayDeque<State> past = new ArrayDeque<>();
    private String text = "";
    private String line = "";
    private int fault = -1;
    private int[] latest;

    ReferenceMap() {
        for (int[] row : now.height) {
            java.util.Arrays.fill(row, 50);
        }
    }

    private static boolean inside(int r, int c) {
        return 0 <= r && r <= 5 && 0 <= c && c <= 5;
    }

    private static void cell(int r, int c) {
        if (!inside(r, c)) {
            throw new IndexOutOfBoundsException();
        }
    }

    private static List<int[]> around(int r, int c) {
        List<int[]> cells = new ArrayList<>();
        for (int[] d : DIRECTIONS) {
            if (inside(r + d[0], c + d[1])) {
                cells.add(new int[] {r + d[0], c + d[1]});
            }
        }
        return cells;
    }

    private boolean hole(int r, int c) {
        return now.wear[r][c] == 3;
    }

    private int mothAt(int r, int c) {
        for (int i = 0; i < now.moths.size(); i++) {
            if (now.moths.get(i)[0] == r && now.moths.get(i)[1] == c) {
                return i;
            }
        }
        return -1;
    }

    private int pegged() {
        int n = 0;
        for (int i = 0; i < 36; i++) {
            n += now.peg[i / 6][i % 6] ? 1 : 0;
        }
        return n;
    }

    private void deny(int number, int detail) {
        latest = new int[] {number, detail, 0};
        throw new UnsupportedOperationException();
    }

    private void remember(State state) {
        past.push(state);
        if (past.size() > 8) {
            past.removeLast();
        }
    }

    int setHeight(int r, int c, int height) {
        cell(r, c);
        if (height < 0 || height > 99) {
            throw new IllegalArgumentException();
        }
        if (now.height[r][c] == height) {
            deny(6, height);
        }
        remember(now.copy());
        int before = now.height[r][c];
        now.height[r][c] = height;
        return before;
    }

    int peg(int r, int c) {
        cell(r, c);
        if (now.peg[r][c]) {
            deny(2, pegged());
        }
        remember(now.copy());
        now.peg[r][c] = true;
        return pegged();
    }

    int unpeg(int r, int c) {
        cell(r, c);
        if (!now.peg[r][c]) {
            deny(2, pegged());
        }
        remember(now.copy());
        now.peg[r][c] = false;
        return pegged();
    }

    int drape() {
        remember(now.copy());
        int[][] old = now.copy().height;
        int changed = 0;
        for (int r = 0; r < 6; r++) {
            for (int c = 0; c < 6; c++) {
                if (!now.peg[r][c]) {
                    List<int[]> near = around(r, c);
                    int sum = old[r][c] * 2;
                    for (int[] n : near) {
                        sum += old[n[0]][n[1]];
                    }
                    now.height[r][c] = Math.floorDiv(sum, 2 + near.size());
                    changed += now.height[r][c] != old[r][c] ? 1 : 0;
                }
            }
        }
        return changed;
    }

    int height(int r, int c) {
        cell(r, c);
        return now.height[r][c];
    }

    boolean isPegged(int r, int c) {
        cell(r, c);
        return now.peg[r][c];
    }

    private int byHeight(int rank) {
        if (rank < 0 || rank > 35) {
            throw new NoSuchElementException();
        }
        List<Integer> cells = new ArrayList<>();
        for (int i = 0; i < 36; i++) {
            cells.add(i);
        }
        cells.sort((a, b) -> now.height[b / 6][b % 6] - now.height[a / 6][a % 6]);
        return cells.get(rank);
    }

    int rowByHeight(int rank) {
        return byHeight(rank) / 6;
    }

    int columnByHeight(int rank) {
        return byHeight(rank) % 6;
    }

    int islands(int level) {
        if (level < 0 || level > 99) {
            throw new IllegalArgumentException();
        }
        boolean[][] seen = new boolean[6][6];
        int count = 0;
        for (int r = 0; r < 6; r++) {
            for (int c = 0; c < 6; c++) {
                count += sink(seen, level, r, c) ? 1 : 0;
            }
        }
        return count;
    }

    private boolean sink(boolean[][] seen, int level, int r, int c) {
        if (seen[r][c] || now.height[r][c] < level) {
            return false;
        }
        seen[r][c] = true;
        for (int[] n : around(r, c)) {
            sink(seen, level, n[0], n[1]);
        }
        return true;
    }

    private int[] end(int r, int c) {
        if (hole(r, c)) {
            return new int[] {r, c};
        }
        int[] low = null;
        for (int[] n : around(r, c)) {
            if (low == null || now.height[n[0]][n[1]] < now.height[low[0]][low[1]]) {
                low = n;
            }
        }
        if (now.height[low[0]][low[1]] >= now.height[r][c]) {
            return new int[] {r, c};
        }
        return end(low[0], low[1]);
    }

    private int flow(int r, int c, int units) {
        int[] end = end(r, c);
        if (hole(end[0], end[1])) {
            now.drained += units;
            return units;
        }
        now.water[end[0]][end[1]] += units;
        return 0;
    }

    int pour(int r, int c, int units) {
        cell(r, c);
        if (units < 1 || units > 99) {
            throw new IllegalArgumentException();
        }
        remember(now.copy());
        now.poured += units;
        return flow(r, c, units);
    }

    int settle() {
        remember(now.copy());
        int[][] old = now.water;
        now.water = new int[6][6];
        int drains = 0;
        for (int r = 0; r < 6; r++) {
            for (int c = 0; c < 6; c++) {
                drains += flow(r, c, old[r][c]);
            }
        }
        return drains;
    }

    int water(int r, int c) {
        cell(r, c);
        return now.water[r][c];
    }

    int endRow(int r, int c) {
        cell(r, c);
        return end(r, c)[0];
    }

    int endColumn(int r, int c) {
        cell(r, c);
        return end(r, c)[1];
    }

    int basins() {
        Set<Integer> ends = new HashSet<>();
        for (int i = 0; i < 36; i++) {
            int[] end = end(i / 6, i % 6);
            ends.add(end[0] * 6 + end[1]);
        }
        return ends.size();
    }

    int basinSize(int r, int c) {
        cell(r, c);
        int[] mine = end(r, c);
        int size = 0;
        for (int i = 0; i < 36; i++) {
            int[] end = end(i / 6, i % 6);
            size += end[0] == mine[0] && end[1] == mine[1] ? 1 : 0;
        }
        return size;
    }

    int spillLevel(int r, int c) {
        cell(r, c);
        for (int level = 0; level <= 99; level++) {
            if (spills(new boolean[6][6], level, r, c)) {
                return level;
            }
        }
        return -1;
    }

    private boolean spills(boolean[][] seen, int level, int r, int c) {
        if (seen[r][c] || now.height[r][c] > level) {
            return false;
        }
        seen[r][c] = true;
        if (r == 0 || r == 5 || c == 0 || c == 5 || hole(r, c)) {
            return true;
        }
        for (int[] n : around(r, c)) {
            if (spills(seen, level, n[0], n[1])) {
                return true;
            }
        }
        return false;
    }

    int pondVolume() {
        int sum = 0;
        for (int i = 0; i < 36; i++) {
            sum += spillLevel(i / 6, i % 6) - now.height[i / 6][i % 6];
        }
        return sum;
    }

    private int step(int r, int c, int[] n) {
        return Math.abs(now.height[r][c] - now.height[n[0]][n[1]]);
    }

    int routeCost(int r, int c, int toR, int toC) {
        cell(r, c);
        cell(toR, toC);
        // Costs go up one by one; a cell is reached when one of its neighbours was, a step earlier.
        int[][] reached = new int[6][6];
        for (int[] row : reached) {
            java.util.Arrays.fill(row, -1);
        }
        if (!hole(r, c)) {
            reached[r][c] = 0;
        }
        for (int cost = 1; cost <= 36 * 100 && reached[toR][toC] < 0; cost++) {
            for (int i = 0; i < 36; i++) {
                for (int[] n : around(i / 6, i % 6)) {
                    int from = reached[n[0]][n[1]];
                    if (reached[i / 6][i % 6] < 0 && !hole(i / 6, i % 6) && from >= 0
                            && from + 1 + step(i / 6, i % 6, n) == cost) {
                        reached[i / 6][i % 6] = cost;
                    }
                }
            }
        }
        if (reached[toR][toC] < 0) {
            throw new NoSuchElementException();
        }
        return reached[toR][toC];
    }

    int steepestStep(int r, int c, int toR, int toC) {
        cell(r, c);
        cell(toR, toC);
        for (int most = 0; most <= 99; most++) {
            boolean[][] seen = new boolean[6][6];
            walk(seen, most, r, c);
            if (seen[toR][toC]) {
                return most;
            }
        }
        throw new NoSuchElementException();
    }

    private void walk(boolean[][] seen, int most, int r, int c) {
        if (seen[r][c] || hole(r, c)) {
            return;
        }
        seen[r][c] = true;
        for (int[] n : around(r, c)) {
            if (step(r, c, n) <= most) {
                walk(seen, most, n[0], n[1]);
            }
        }
    }

    int addMoth(int r, int c) {
        cell(r, c);
        if (now.moths.size() == 4) {
            deny(1, 4);
        }
        if (hole(r, c)) {
            deny(3, holes());
        }
        if (mothAt(r, c) >= 0) {
            deny(5, mothAt(r, c));
        }
        remember(now.copy());
        now.moths.add(new int[] {r, c});
        return now.moths.size() - 1;
    }

    int removeMoth(int moth) {
        mothRow(moth);
        remember(now.copy());
        now.moths.remove(moth);
        return now.moths.size();
    }

    int passNight() {
        remember(now.copy());
        return night();
    }

    private int night() {
        now.nights++;
        int before = holes();
        for (int[] moth : now.moths) {
            int[] best = null;
            for (int[] n : around(moth[0], moth[1])) {
                if (!hole(n[0], n[1]) && mothAt(n[0], n[1]) < 0
                        && (best == null || now.height[n[0]][n[1]] > now.height[best[0]][best[1]])) {
                    best = n;
                }
            }
            if (best != null) {
                moth[0] = best[0];
                moth[1] = best[1];
            }
            now.wear[moth[0]][moth[1]] = Math.min(3, now.wear[moth[0]][moth[1]] + 1);
        }
        return holes() - before;
    }

    int patch(int r, int c) {
        cell(r, c);
        if (mothAt(r, c) >= 0) {
            deny(5, mothAt(r, c));
        }
        if (now.wear[r][c] == 0) {
            deny(4, holes());
        }
        remember(now.copy());
        int before = now.wear[r][c];
        now.wear[r][c] = 0;
        return before;
    }

    int mothCount() {
        return now.moths.size();
    }

    int mothRow(int moth) {
        if (moth < 0 || moth >= now.moths.size()) {
            throw new IndexOutOfBoundsException();
        }
        return now.moths.get(moth)[0];
    }

    int mothColumn(int moth) {
        mothRow(moth);
        return now.moths.get(moth)[1];
    }

    int wear(int r, int c) {
        cell(r, c);
        return now.wear[r][c];
    }

    int holes() {
        int n = 0;
        for (int i = 0; i < 36; i++) {
            n += hole(i / 6, i % 6) ? 1 : 0;
        }
        return n;
    }

    int nightsUntilHole(int r, int c) {
        cell(r, c);
        State kept = now.copy();
        int passed = 0;
        while (!hole(r, c) && passed <= 30) {
            night();
            passed++;
        }
        now = kept;
        if (passed > 30) {
            throw new NoSuchElementException();
        }
        return passed;
    }

    int nights() {
        return now.nights;
    }

    int poured() {
        return now.poured;
    }

    int standing() {
        return now.poured - now.drained;
    }

    int drained() {
        return now.drained;
    }

    double meanHeight() {
        int sum = 0;
        for (int i = 0; i < 36; i++) {
            sum += now.height[i / 6][i % 6];
        }
        return (double) sum / 36;
    }

    float slope(int r, int c) {
        cell(r, c);
        int sum = 0;
        for (int[] n : around(r, c)) {
            sum += step(r, c, n);
        }
        return (float) sum / (float) around(r, c).size();
    }

    int feed(char character) {
        if (text.length() == 60) {
            throw new IllegalStateException();
        }
        text += character;
        return text.length();
    }

    int execute() {
        String whole = text;
        text = "";
        if (!TEXT.matcher(whole).matches()) {
            fault = 0;
            while (fault < whole.length() && canBegin(whole.substring(0, fault + 1))) {
                fault++;
            }
            throw new IllegalArgumentException();
        }
        State before = now.copy();
        List<State> undoable = new ArrayList<>(past);
        int[] denied = latest;
        String[] commands = whole.split(";");
        for (int i = 0; i < commands.length; i++) {
            int cause = causeOfFailure(commands[i]);
            if (cause != 0) {
                now = before;
                past.clear();
                past.addAll(undoable);
                latest = new int[] {7, i, cause};
                throw new UnsupportedOperationException();
            }
        }
        latest = denied;
        past.clear();
        past.addAll(undoable);
        remember(before);
        return commands.length;
    }

    private static boolean canBegin(String start) {
        Matcher matcher = TEXT.matcher(start);
        return matcher.matches() || matcher.hitEnd();
    }

    private int causeOfFailure(String command) {
        try {
            run(command);
            return 0;
        } catch (UnsupportedOperationException e) {
            return latest[0];
        } catch (IndexOutOfBoundsException | IllegalArgumentException e) {
            return 8;
        }
    }

    private void run(String command) {
        String[] words = command.split("[ =]");
        int first = words.length > 1 ? Integer.parseInt(words[1]) : 0;
        int second = words.length > 2 ? Integer.parseInt(words[2]) : 0;
        int r = first / 10;
        int c = first % 10;
        switch (words[0]) {
            case "height" -> setHeight(r, c, second);
            case "peg" -> peg(r, c);
            case "free" -> unpeg(r, c);
            case "drape" -> drape();
            case "pour" -> pour(r, c, second);
            case "settle" -> settle();
            case "moth" -> addMoth(r, c);
            case "swat" -> removeMoth(first);
            case "night" -> passNight();
            case "patch" -> patch(r, c);
            default -> throw new IllegalStateException("no such command");
        }
    }

    int faultPosition() {
        if (fault < 0) {
            throw new NoSuchElementException();
        }
        return fault;
    }

    int writeRow(int r) {
        cell(r, 0);
        List<String> words = new ArrayList<>();
        for (int c = 0; c < 6; c++) {
            words.add(now.height[r][c] + (now.peg[r][c] ? "^" : "") + (now.water[r][c] > 0 ? "~" : "")
                    + (hole(r, c) ? "o" : "") + (mothAt(r, c) >= 0 ? "m" : ""));
        }
        line = String.join(" ", words);
        return line.length();
    }

    char lineCharacter(int index) {
        if (index < 0 || index >= line.length()) {
            throw new IndexOutOfBoundsException();
        }
        return line.charAt(index);
    }

    private int latest(int part) {
        if (latest == null || latest[part] == 0 && part == 2) {
            throw new NoSuchElementException();
        }
        return latest[part];
    }

    int denial() {
        return latest(0);
    }

    int denialDetail() {
        return latest(1);
    }

    int denialCause() {
        return latest(2);
    }

    int undo() {
        if (past.isEmpty()) {
            throw new IllegalStateException();
        }
        now = past.pop();
        return past.size();
    }

    int undoCount() {
        return past.size();
    }

    int saveSnapshot() {
        saved = now.copy();
        return now.moths.size();
    }

    int restoreSnapshot() {
        if (saved == null) {
            throw new IllegalStateException();
        }
        now = saved.copy();
        past.clear();
        return now.moths.size();
    }
}
