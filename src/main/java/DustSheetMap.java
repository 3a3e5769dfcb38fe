import java.util.ArrayList;
import java.util.Arrays;
import java.util.NoSuchElementException;

/**
 * A map of a dust sheet with hills and valleys: heights that are draped between pegs, water that
 * flows down to pits or through holes, levels at which water spills, routes by cost and by their
 * steepest step, islands above a level, and moths that wear holes.
 */
public final class DustSheetMap {
    private static final int SIDE = 6;
    private static final int CELLS = SIDE * SIDE;
    private static final int DIRECTIONS = 4;
    private static final int FIRST_HEIGHT = 50;
    private static final int MOST_HEIGHT = 99;
    private static final int MOST_UNITS = 99;
    private static final int HOLE_WEAR = 3;
    private static final int MOST_MOTHS = 4;
    private static final int MOST_NIGHTS_AHEAD = 30;
    private static final int MOST_CHARACTERS = 60;
    private static final int MOST_UNDONE = 8;

    /** No cell, no moth, no number: whatever is asked for does not exist. */
    private static final int NONE = -1;

    // How a command is refused: FINE not at all, a number above it is the number of the denial.
    private static final int FINE = 0;
    private static final int NO_SUCH_INDEX = -1;
    private static final int OUT_OF_RANGE = -2;

    private static final int DENIED_LIMIT = 1;
    private static final int DENIED_PEG = 2;
    private static final int DENIED_HOLE = 3;
    private static final int DENIED_NO_WEAR = 4;
    private static final int DENIED_MOTH = 5;
    private static final int DENIED_SAME = 6;
    private static final int DENIED_COMMAND = 7;
    private static final int OTHER_EXCEPTION = 8;

    private final Sheet sheet = new Sheet();
    private final Sheet snapshot = new Sheet();
    private final Sheet sheetAhead = new Sheet();
    private final Sheet trial = new Sheet();
    private final History history = new History();
    private final Regions regions = new Regions();
    private final SpillLevels spillLevels = new SpillLevels();
    private final Routes routes = new Routes();
    private final TextParser parser = new TextParser();
    private final StringBuilder line = new StringBuilder();
    private boolean snapshotSaved;
    private int faultPosition = NONE;
    private int denialNumber = NONE;
    private int denialDetail = NONE;
    private int denialCause = NONE;

    public DustSheetMap() {
    }

    // ---- heights

    public int setHeight(int row, int column, int height)
            throws IndexOutOfBoundsException, IllegalArgumentException, UnsupportedOperationException {
        return change(new Command(Verb.HEIGHT, cellOf(row, column), height));
    }

    public int peg(int row, int column) throws IndexOutOfBoundsException, UnsupportedOperationException {
        return change(new Command(Verb.PEG, cellOf(row, column), NONE));
    }

    public int unpeg(int row, int column) throws IndexOutOfBoundsException, UnsupportedOperationException {
        return change(new Command(Verb.FREE, cellOf(row, column), NONE));
    }

    public int drape() {
        return change(new Command(Verb.DRAPE, NONE, NONE));
    }

    public int height(int row, int column) throws IndexOutOfBoundsException {
        return sheet.heights[requiredCell(row, column)];
    }

    public boolean isPegged(int row, int column) throws IndexOutOfBoundsException {
        return sheet.pegs[requiredCell(row, column)];
    }

    public int rowByHeight(int rank) throws NoSuchElementException {
        return cellByHeight(rank) / SIDE;
    }

    public int columnByHeight(int rank) throws NoSuchElementException {
        return cellByHeight(rank) % SIDE;
    }

    public int islands(int level) throws IllegalArgumentException {
        requireLevel(level);
        return regions.islandsFlooded(sheet, level);
    }

    public int islandsByUnions(int level) throws IllegalArgumentException {
        requireLevel(level);
        return regions.islandsUnited(sheet, level);
    }

    // ---- water

    public int pour(int row, int column, int units)
            throws IndexOutOfBoundsException, IllegalArgumentException {
        return change(new Command(Verb.POUR, cellOf(row, column), units));
    }

    public int settle() {
        return change(new Command(Verb.SETTLE, NONE, NONE));
    }

    public int water(int row, int column) throws IndexOutOfBoundsException {
        return sheet.water[requiredCell(row, column)];
    }

    public int endRow(int row, int column) throws IndexOutOfBoundsException {
        return sheet.endOf(requiredCell(row, column)) / SIDE;
    }

    public int endColumn(int row, int column) throws IndexOutOfBoundsException {
        return sheet.endOf(requiredCell(row, column)) % SIDE;
    }

    public int basins() {
        return regions.countBasins(sheet);
    }

    public int basinSize(int row, int column) throws IndexOutOfBoundsException {
        return regions.basinFollowed(sheet, requiredCell(row, column));
    }

    public int basinSizeUpwards(int row, int column) throws IndexOutOfBoundsException {
        return regions.basinClimbed(sheet, requiredCell(row, column));
    }

    public int spillLevel(int row, int column) throws IndexOutOfBoundsException {
        return spillLevels.byQueue(sheet, requiredCell(row, column));
    }

    public int spillLevelByRounds(int row, int column) throws IndexOutOfBoundsException {
        return spillLevels.byRounds(sheet, requiredCell(row, column));
    }

    public int pondVolume() {
        return spillLevels.volume(sheet);
    }

    // ---- routes

    public int routeCost(int row, int column, int toRow, int toColumn)
            throws IndexOutOfBoundsException, NoSuchElementException {
        int from = requiredCell(row, column);
        int to = requiredCell(toRow, toColumn);
        return requiredOfRoute(routes.costByQueue(sheet, from, to));
    }

    public int routeCostByRounds(int row, int column, int toRow, int toColumn)
            throws IndexOutOfBoundsException, NoSuchElementException {
        int from = requiredCell(row, column);
        int to = requiredCell(toRow, toColumn);
        return requiredOfRoute(routes.costByRounds(sheet, from, to));
    }

    public int steepestStep(int row, int column, int toRow, int toColumn)
            throws IndexOutOfBoundsException, NoSuchElementException {
        int from = requiredCell(row, column);
        int to = requiredCell(toRow, toColumn);
        return requiredOfRoute(routes.stepByUnions(sheet, from, to));
    }

    public int steepestStepByHalving(int row, int column, int toRow, int toColumn)
            throws IndexOutOfBoundsException, NoSuchElementException {
        int from = requiredCell(row, column);
        int to = requiredCell(toRow, toColumn);
        return requiredOfRoute(routes.stepByHalving(sheet, from, to));
    }

    // ---- moths and holes

    public int addMoth(int row, int column) throws IndexOutOfBoundsException, UnsupportedOperationException {
        return change(new Command(Verb.MOTH, cellOf(row, column), NONE));
    }

    public int removeMoth(int moth) throws IndexOutOfBoundsException {
        return change(new Command(Verb.SWAT, NONE, moth));
    }

    public int passNight() {
        return change(new Command(Verb.NIGHT, NONE, NONE));
    }

    public int patch(int row, int column) throws IndexOutOfBoundsException, UnsupportedOperationException {
        return change(new Command(Verb.PATCH, cellOf(row, column), NONE));
    }

    public int mothCount() {
        return sheet.mothCount;
    }

    public int mothRow(int moth) throws IndexOutOfBoundsException {
        return cellOfMoth(moth) / SIDE;
    }

    public int mothColumn(int moth) throws IndexOutOfBoundsException {
        return cellOfMoth(moth) % SIDE;
    }

    public int wear(int row, int column) throws IndexOutOfBoundsException {
        return sheet.wear[requiredCell(row, column)];
    }

    public int holes() {
        return sheet.countHoles();
    }

    public int nightsUntilHole(int row, int column) throws IndexOutOfBoundsException, NoSuchElementException {
        int cell = requiredCell(row, column);
        trial.copyFrom(sheet);
        for (int passed = 0; passed <= MOST_NIGHTS_AHEAD; passed++) {
            if (trial.hasHole(cell)) {
                return passed;
            }
            trial.letNightPass();
        }
        throw new NoSuchElementException("no hole within 30 nights");
    }

    // ---- accounts

    public int nights() {
        return sheet.nights;
    }

    public int poured() {
        return sheet.poured;
    }

    public int standing() {
        return sheet.sumOfWater();
    }

    public int drained() {
        return sheet.drained;
    }

    public double meanHeight() {
        return (double) sheet.sumOfHeights() / CELLS;
    }

    public float slope(int row, int column) throws IndexOutOfBoundsException {
        return sheet.meanDifference(requiredCell(row, column));
    }

    // ---- texts and output lines

    public int feed(char character) throws IllegalStateException {
        if (!parser.append(character)) {
            throw new IllegalStateException("the text buffer is full");
        }
        return parser.length;
    }

    public int execute() throws IllegalArgumentException, UnsupportedOperationException {
        int fault = parser.parse();
        parser.empty();
        if (fault != NONE) {
            faultPosition = fault;
            throw new IllegalArgumentException("the text does not match the grammar");
        }
        runAllOrNone(parser.commands);
        return parser.commands.size();
    }

    public int faultPosition() throws NoSuchElementException {
        if (faultPosition == NONE) {
            throw new NoSuchElementException("no fault position was kept yet");
        }
        return faultPosition;
    }

    public int writeRow(int row) throws IndexOutOfBoundsException {
        int first = requiredCell(row, 0);
        line.setLength(0);
        for (int column = 0; column < SIDE; column++) {
            if (column > 0) {
                line.append(' ');
            }
            writeCell(first + column);
        }
        return line.length();
    }

    public char lineCharacter(int index) throws IndexOutOfBoundsException {
        if (index < 0 || index >= line.length()) {
            throw new IndexOutOfBoundsException("no such character");
        }
        return line.charAt(index);
    }

    // ---- the latest denial

    public int denial() throws NoSuchElementException {
        requireDenial();
        return denialNumber;
    }

    public int denialDetail() throws NoSuchElementException {
        requireDenial();
        return denialDetail;
    }

    public int denialCause() throws NoSuchElementException {
        if (denialCause == NONE) {
            throw new NoSuchElementException("there is no cause");
        }
        return denialCause;
    }

    // ---- undo and snapshots

    public int undo() throws IllegalStateException {
        if (!history.takeBack(sheet)) {
            throw new IllegalStateException("no change can be undone");
        }
        return history.count;
    }

    public int undoCount() {
        return history.count;
    }

    public int saveSnapshot() {
        snapshot.copyFrom(sheet);
        snapshotSaved = true;
        return sheet.mothCount;
    }

    public int restoreSnapshot() throws IllegalStateException {
        if (!snapshotSaved) {
            throw new IllegalStateException("there is no snapshot");
        }
        sheet.copyFrom(snapshot);
        history.forget();
        return sheet.mothCount;
    }

    // ---- what several methods need

    /** Carries out one change, or throws what the document asks for and changes nothing. */
    private int change(Command command) {
        int refusal = sheet.refusalOf(command);
        if (refusal == NO_SUCH_INDEX) {
            throw new IndexOutOfBoundsException("no such cell or moth");
        }
        if (refusal == OUT_OF_RANGE) {
            throw new IllegalArgumentException("the number is out of range");
        }
        if (refusal != FINE) {
            keepDenial(refusal, sheet.detailOf(refusal, command), NONE);
            throw new UnsupportedOperationException("denied");
        }
        history.keep(sheet);
        return sheet.carryOut(command);
    }

    private void runAllOrNone(ArrayList<Command> commands) {
        sheetAhead.copyFrom(sheet);
        for (int i = 0; i < commands.size(); i++) {
            Command command = commands.get(i);
            int refusal = sheet.refusalOf(command);
            if (refusal != FINE) {
                sheet.copyFrom(sheetAhead);
                keepDenial(DENIED_COMMAND, i, refusal > FINE ? refusal : OTHER_EXCEPTION);
                throw new UnsupportedOperationException("a command of the text failed");
            }
            sheet.carryOut(command);
        }
        history.keep(sheetAhead);
    }

    private void keepDenial(int number, int detail, int cause) {
        denialNumber = number;
        denialDetail = detail;
        denialCause = cause;
    }

    private void requireDenial() {
        if (denialNumber == NONE) {
            throw new NoSuchElementException("nothing was denied yet");
        }
    }

    private void writeCell(int cell) {
        line.append(sheet.heights[cell]);
        if (sheet.pegs[cell]) {
            line.append('^');
        }
        if (sheet.water[cell] > 0) {
            line.append('~');
        }
        if (sheet.hasHole(cell)) {
            line.append('o');
        }
        if (sheet.mothOn(cell) != NONE) {
            line.append('m');
        }
    }

    private int cellByHeight(int rank) {
        if (rank < 0 || rank >= CELLS) {
            throw new NoSuchElementException("no such rank");
        }
        return regions.cellAtRank(sheet, rank);
    }

    private int cellOfMoth(int moth) {
        if (!sheet.isMoth(moth)) {
            throw new IndexOutOfBoundsException("no such moth");
        }
        return sheet.moths[moth];
    }

    private static void requireLevel(int level) {
        if (level < 0 || level > MOST_HEIGHT) {
            throw new IllegalArgumentException("the level is out of range");
        }
    }

    private static int requiredCell(int row, int column) {
        int cell = cellOf(row, column);
        if (cell == NONE) {
            throw new IndexOutOfBoundsException("no such cell");
        }
        return cell;
    }

    private static int requiredOfRoute(int answer) {
        if (answer == NONE) {
            throw new NoSuchElementException("there is no route");
        }
        return answer;
    }

    /** Cells are numbered row by row, so that ascending numbers go by row and then by column. */
    private static int cellOf(int row, int column) {
        if (row < 0 || row >= SIDE || column < 0 || column >= SIDE) {
            return NONE;
        }
        return row * SIDE + column;
    }

    private static int neighbour(int cell, int direction) {
        int row = cell / SIDE;
        int column = cell % SIDE;
        switch (direction) {
            case 0:
                return row == 0 ? NONE : cell - SIDE;
            case 1:
                return column == SIDE - 1 ? NONE : cell + 1;
            case 2:
                return row == SIDE - 1 ? NONE : cell + SIDE;
            default:
                return column == 0 ? NONE : cell - 1;
        }
    }

    private static boolean isOnBorder(int cell) {
        int row = cell / SIDE;
        int column = cell % SIDE;
        return row == 0 || row == SIDE - 1 || column == 0 || column == SIDE - 1;
    }

    /**
     * The kinds of changes, each with the form of its command in a text: R and C stand for the
     * digits of a row and a column, I for the digit of an index, N for one or two digits.
     */
    private enum Verb {
        HEIGHT("height RC=N"),
        PEG("peg RC"),
        FREE("free RC"),
        DRAPE("drape"),
        POUR("pour RC N"),
        SETTLE("settle"),
        MOTH("moth RC"),
        SWAT("swat I"),
        NIGHT("night"),
        PATCH("patch RC");

        private static final Verb[] ALL = values();

        private final String form;

        Verb(String form) {
            this.form = form;
        }
    }

    /** A change that is asked for; its cell is NONE if the change needs none or there is no such cell. */
    private static final class Command {
        private final Verb verb;
        private final int cell;
        private final int number;

        Command(Verb verb, int cell, int number) {
            this.verb = verb;
            this.cell = cell;
            this.number = number;
        }
    }

    /** Everything that changes can change. */
    private static final class Sheet {
        private final int[] heights = new int[CELLS];
        private final int[] drapedHeights = new int[CELLS];
        private final boolean[] pegs = new boolean[CELLS];
        private final int[] water = new int[CELLS];
        private final int[] wear = new int[CELLS];
        private final int[] moths = new int[MOST_MOTHS];
        private int mothCount;
        private int nights;
        private int poured;
        private int drained;

        Sheet() {
            Arrays.fill(heights, FIRST_HEIGHT);
        }

        void copyFrom(Sheet other) {
            System.arraycopy(other.heights, 0, heights, 0, CELLS);
            System.arraycopy(other.water, 0, water, 0, CELLS);
            System.arraycopy(other.wear, 0, wear, 0, CELLS);
            System.arraycopy(other.moths, 0, moths, 0, MOST_MOTHS);
            for (int cell = 0; cell < CELLS; cell++) {
                pegs[cell] = other.pegs[cell];
            }
            mothCount = other.mothCount;
            nights = other.nights;
            poured = other.poured;
            drained = other.drained;
        }

        /** Returns FINE, NO_SUCH_INDEX, OUT_OF_RANGE or the number of a denial. */
        int refusalOf(Command command) {
            switch (command.verb) {
                case HEIGHT:
                    return refusalOfHeight(command.cell, command.number);
                case PEG:
                    return refusalOfPegging(command.cell, true);
                case FREE:
                    return refusalOfPegging(command.cell, false);
                case POUR:
                    return refusalOfPouring(command.cell, command.number);
                case MOTH:
                    return refusalOfMoth(command.cell);
                case SWAT:
                    return isMoth(command.number) ? FINE : NO_SUCH_INDEX;
                case PATCH:
                    return refusalOfPatch(command.cell);
                default:
                    return FINE;
            }
        }

        private int refusalOfHeight(int cell, int height) {
            if (cell == NONE) {
                return NO_SUCH_INDEX;
            }
            if (height < 0 || height > MOST_HEIGHT) {
                return OUT_OF_RANGE;
            }
            return heights[cell] == height ? DENIED_SAME : FINE;
        }

        private int refusalOfPegging(int cell, boolean pegged) {
            if (cell == NONE) {
                return NO_SUCH_INDEX;
            }
            return pegs[cell] == pegged ? DENIED_PEG : FINE;
        }

        private int refusalOfPouring(int cell, int units) {
            if (cell == NONE) {
                return NO_SUCH_INDEX;
            }
            return units < 1 || units > MOST_UNITS ? OUT_OF_RANGE : FINE;
        }

        private int refusalOfMoth(int cell) {
            if (cell == NONE) {
                return NO_SUCH_INDEX;
            }
            if (mothCount >= MOST_MOTHS) {
                return DENIED_LIMIT;
            }
            if (hasHole(cell)) {
                return DENIED_HOLE;
            }
            return mothOn(cell) != NONE ? DENIED_MOTH : FINE;
        }

        private int refusalOfPatch(int cell) {
            if (cell == NONE) {
                return NO_SUCH_INDEX;
            }
            if (mothOn(cell) != NONE) {
                return DENIED_MOTH;
            }
            return wear[cell] == 0 ? DENIED_NO_WEAR : FINE;
        }

        int detailOf(int denialNumber, Command command) {
            switch (denialNumber) {
                case DENIED_LIMIT:
                    return MOST_MOTHS;
                case DENIED_PEG:
                    return countPegs();
                case DENIED_HOLE:
                case DENIED_NO_WEAR:
                    return countHoles();
                case DENIED_MOTH:
                    return mothOn(command.cell);
                default:
                    return command.number;
            }
        }

        /** Carries out a command that is not refused and returns the answer of its method. */
        int carryOut(Command command) {
            switch (command.verb) {
                case HEIGHT:
                    return replaceHeight(command.cell, command.number);
                case PEG:
                    return replacePeg(command.cell, true);
                case FREE:
                    return replacePeg(command.cell, false);
                case DRAPE:
                    return drapeAll();
                case POUR:
                    return pourOn(command.cell, command.number);
                case SETTLE:
                    return settleAll();
                case MOTH:
                    return letMothCome(command.cell);
                case SWAT:
                    return letMothGo(command.number);
                case NIGHT:
                    return letNightPass();
                default:
                    return patchUp(command.cell);
            }
        }

        private int replaceHeight(int cell, int height) {
            int before = heights[cell];
            heights[cell] = height;
            return before;
        }

        private int replacePeg(int cell, boolean pegged) {
            pegs[cell] = pegged;
            return countPegs();
        }

        private int drapeAll() {
            int changed = 0;
            for (int cell = 0; cell < CELLS; cell++) {
                drapedHeights[cell] = pegs[cell] ? heights[cell] : drapedHeight(cell);
                if (drapedHeights[cell] != heights[cell]) {
                    changed++;
                }
            }
            System.arraycopy(drapedHeights, 0, heights, 0, CELLS);
            return changed;
        }

        private int drapedHeight(int cell) {
            int sum = 2 * heights[cell];
            int parts = 2;
            for (int direction = 0; direction < DIRECTIONS; direction++) {
                int next = neighbour(cell, direction);
                if (next != NONE) {
                    sum += heights[next];
                    parts++;
                }
            }
            return sum / parts;
        }

        private int pourOn(int cell, int units) {
            poured += units;
            return letFlow(cell, units);
        }

        private int settleAll() {
            int draining = 0;
            for (int cell = 0; cell < CELLS; cell++) {
                int units = water[cell];
                water[cell] = 0;
                draining += letFlow(cell, units);
            }
            return draining;
        }

        /** Returns how many of the units drain. */
        private int letFlow(int cell, int units) {
            int end = endOf(cell);
            if (hasHole(end)) {
                drained += units;
                return units;
            }
            water[end] += units;
            return 0;
        }

        private int letMothCome(int cell) {
            int moth = mothCount;
            if (moth < MOST_MOTHS) {
                moths[moth] = cell;
                mothCount++;
            }
            return moth;
        }

        private int letMothGo(int moth) {
            for (int later = moth + 1; later < mothCount; later++) {
                moths[later - 1] = moths[later];
            }
            mothCount--;
            return mothCount;
        }

        /** Returns how many cells get a hole. */
        int letNightPass() {
            nights++;
            int newHoles = 0;
            for (int moth = 0; moth < mothCount; moth++) {
                moths[moth] = flightEnd(moths[moth]);
                newHoles += wearDown(moths[moth]);
            }
            return newHoles;
        }

        private int flightEnd(int cell) {
            int best = NONE;
            for (int direction = 0; direction < DIRECTIONS; direction++) {
                int next = neighbour(cell, direction);
                if (next != NONE && !hasHole(next) && mothOn(next) == NONE
                        && (best == NONE || heights[next] > heights[best])) {
                    best = next;
                }
            }
            return best == NONE ? cell : best;
        }

        /** Returns 1 if the cell gets a hole by this, else 0. */
        private int wearDown(int cell) {
            if (hasHole(cell)) {
                return 0;
            }
            wear[cell]++;
            return hasHole(cell) ? 1 : 0;
        }

        private int patchUp(int cell) {
            int before = wear[cell];
            wear[cell] = 0;
            return before;
        }

        boolean hasHole(int cell) {
            return wear[cell] >= HOLE_WEAR;
        }

        boolean isMoth(int moth) {
            return moth >= 0 && moth < mothCount;
        }

        int mothOn(int cell) {
            for (int moth = 0; moth < mothCount; moth++) {
                if (moths[moth] == cell) {
                    return moth;
                }
            }
            return NONE;
        }

        /** Returns the neighbour to which water flows from a cell, NONE if the cell is an end. */
        int flowOf(int cell) {
            if (hasHole(cell)) {
                return NONE;
            }
            int lowest = cell;
            for (int direction = 0; direction < DIRECTIONS; direction++) {
                int next = neighbour(cell, direction);
                if (next != NONE && heights[next] < heights[lowest]) {
                    lowest = next;
                }
            }
            return lowest == cell ? NONE : lowest;
        }

        int endOf(int cell) {
            int end = cell;
            for (int step = 0; step < CELLS; step++) {
                int next = flowOf(end);
                if (next == NONE) {
                    return end;
                }
                end = next;
            }
            return end;
        }

        int difference(int cell, int other) {
            return Math.abs(heights[cell] - heights[other]);
        }

        float meanDifference(int cell) {
            int sum = 0;
            int count = 0;
            for (int direction = 0; direction < DIRECTIONS; direction++) {
                int next = neighbour(cell, direction);
                if (next != NONE) {
                    sum += difference(cell, next);
                    count++;
                }
            }
            return count == 0 ? 0f : (float) sum / (float) count;
        }

        int countPegs() {
            int count = 0;
            for (int cell = 0; cell < CELLS; cell++) {
                if (pegs[cell]) {
                    count++;
                }
            }
            return count;
        }

        int countHoles() {
            int count = 0;
            for (int cell = 0; cell < CELLS; cell++) {
                if (hasHole(cell)) {
                    count++;
                }
            }
            return count;
        }

        int sumOfWater() {
            int sum = 0;
            for (int cell = 0; cell < CELLS; cell++) {
                sum += water[cell];
            }
            return sum;
        }

        int sumOfHeights() {
            int sum = 0;
            for (int cell = 0; cell < CELLS; cell++) {
                sum += heights[cell];
            }
            return sum;
        }
    }

    /** The sheets as they were ahead of the latest changes, in a ring. */
    private static final class History {
        private final Sheet[] sheets = new Sheet[MOST_UNDONE];
        private int place;
        private int count;

        History() {
            for (int i = 0; i < MOST_UNDONE; i++) {
                sheets[i] = new Sheet();
            }
        }

        void keep(Sheet sheet) {
            sheets[place].copyFrom(sheet);
            place = (place + 1) % MOST_UNDONE;
            count = Math.min(count + 1, MOST_UNDONE);
        }

        /** Returns false if there is nothing to take back. */
        boolean takeBack(Sheet sheet) {
            if (count == 0) {
                return false;
            }
            count--;
            place = (place + MOST_UNDONE - 1) % MOST_UNDONE;
            sheet.copyFrom(sheets[place]);
            return true;
        }

        void forget() {
            count = 0;
        }
    }

    /** The text buffer and the commands that were read from it. */
    private static final class TextParser {
        // An array, as a text must not hold characters above 255, but any character can be fed.
        private final char[] buffer = new char[MOST_CHARACTERS];
        private final ArrayList<Command> commands = new ArrayList<Command>();
        private int length;
        private int fault;
        private int row;
        private int column;
        private int number;

        /** Returns false if the buffer is full. */
        boolean append(char character) {
            if (length >= MOST_CHARACTERS) {
                return false;
            }
            buffer[length] = character;
            length++;
            return true;
        }

        void empty() {
            length = 0;
        }

        /** Reads the commands; returns the fault position, NONE if the buffer matches the grammar. */
        int parse() {
            commands.clear();
            fault = 0;
            int start = 0;
            for (int count = 0; count < MOST_CHARACTERS; count++) {
                int end = readCommand(start);
                if (end == NONE) {
                    return fault;
                }
                if (end >= length) {
                    return NONE;
                }
                if (buffer[end] != ';') {
                    return end;
                }
                start = end + 1;
            }
            return fault;
        }

        /** Returns where the command that begins at a place ends, NONE if none begins there. */
        private int readCommand(int start) {
            for (int i = 0; i < Verb.ALL.length; i++) {
                int end = readForm(Verb.ALL[i], start);
                if (end != NONE) {
                    return end;
                }
            }
            return NONE;
        }

        /** The fault is where the form that fits longest fails: no other form can continue there. */
        private int readForm(Verb verb, int start) {
            int place = start;
            row = NONE;
            column = NONE;
            number = NONE;
            for (int i = 0; i < verb.form.length(); i++) {
                int width = readSign(verb.form.charAt(i), place);
                if (width == 0) {
                    fault = Math.max(fault, place);
                    return NONE;
                }
                place += width;
            }
            commands.add(new Command(verb, cellOf(row, column), number));
            return place;
        }

        /** Returns how many characters fit a sign of a form, 0 if none does. */
        private int readSign(char sign, int place) {
            int digit = digitAt(place);
            switch (sign) {
                case 'R':
                    row = digit;
                    return digit == NONE ? 0 : 1;
                case 'C':
                    column = digit;
                    return digit == NONE ? 0 : 1;
                case 'I':
                    number = digit;
                    return digit == NONE ? 0 : 1;
                case 'N':
                    return readNumber(place);
                default:
                    return place < length && buffer[place] == sign ? 1 : 0;
            }
        }

        private int readNumber(int place) {
            int first = digitAt(place);
            if (first == NONE) {
                return 0;
            }
            int second = digitAt(place + 1);
            if (second == NONE) {
                number = first;
                return 1;
            }
            number = 10 * first + second;
            return 2;
        }

        private int digitAt(int place) {
            if (place < 0 || place >= length || buffer[place] < '0' || buffer[place] > '9') {
                return NONE;
            }
            return buffer[place] - '0';
        }
    }

    /** Cells that wait, each at most once, to be taken in ascending order of their keys. */
    private static final class CellQueue {
        private final boolean[] waiting = new boolean[CELLS];
        private final int[] keys = new int[CELLS];

        void put(int cell, int key) {
            waiting[cell] = true;
            keys[cell] = key;
        }

        /** Returns NONE if no cell waits. */
        int take() {
            int first = NONE;
            for (int cell = 0; cell < CELLS; cell++) {
                if (waiting[cell] && (first == NONE || keys[cell] < keys[first])) {
                    first = cell;
                }
            }
            if (first != NONE) {
                waiting[first] = false;
            }
            return first;
        }
    }

    /** Cells that a flood has reached; each can be taken once, to go on from it. */
    private static final class Flood {
        private final boolean[] reached = new boolean[CELLS];
        private final int[] cells = new int[CELLS];
        private int reachedCount;
        private int takenCount;

        void dry() {
            for (int cell = 0; cell < CELLS; cell++) {
                reached[cell] = false;
            }
            reachedCount = 0;
            takenCount = 0;
        }

        void reach(int cell) {
            if (!reached[cell] && reachedCount < CELLS) {
                reached[cell] = true;
                cells[reachedCount] = cell;
                reachedCount++;
            }
        }

        /** Returns NONE if every cell that was reached is taken. */
        int take() {
            if (takenCount >= reachedCount) {
                return NONE;
            }
            takenCount++;
            return cells[takenCount - 1];
        }
    }

    /** Sets of cells that can be united. */
    private static final class Unions {
        private final int[] parents = new int[CELLS];

        void separate() {
            for (int cell = 0; cell < CELLS; cell++) {
                parents[cell] = cell;
            }
        }

        int rootOf(int cell) {
            int root = cell;
            for (int step = 0; step < CELLS && parents[root] != root; step++) {
                root = parents[root];
            }
            return root;
        }

        /** Returns false if the cells are in one set already. */
        boolean unite(int cell, int other) {
            int root = rootOf(cell);
            int otherRoot = rootOf(other);
            parents[otherRoot] = root;
            return root != otherRoot;
        }
    }

    /** The order of the cells by height, islands and basins. */
    private static final class Regions {
        private final Flood flood = new Flood();
        private final Unions unions = new Unions();
        private final boolean[] raised = new boolean[CELLS];
        private final int[] ranked = new int[CELLS];

        int cellAtRank(Sheet sheet, int rank) {
            rankCells(sheet);
            return ranked[rank];
        }

        /** An insertion sort, as it leaves cells of equal heights in their order. */
        private void rankCells(Sheet sheet) {
            for (int cell = 0; cell < CELLS; cell++) {
                int rank = cell;
                while (rank > 0 && sheet.heights[ranked[rank - 1]] < sheet.heights[cell]) {
                    ranked[rank] = ranked[rank - 1];
                    rank--;
                }
                ranked[rank] = cell;
            }
        }

        int islandsFlooded(Sheet sheet, int level) {
            flood.dry();
            int count = 0;
            for (int cell = 0; cell < CELLS; cell++) {
                if (sheet.heights[cell] >= level && !flood.reached[cell]) {
                    count++;
                    floodIsland(sheet, level, cell);
                }
            }
            return count;
        }

        private void floodIsland(Sheet sheet, int level, int first) {
            flood.reach(first);
            for (int taken = 0; taken < CELLS; taken++) {
                int cell = flood.take();
                if (cell == NONE) {
                    return;
                }
                for (int direction = 0; direction < DIRECTIONS; direction++) {
                    int next = neighbour(cell, direction);
                    if (next != NONE && sheet.heights[next] >= level) {
                        flood.reach(next);
                    }
                }
            }
        }

        int islandsUnited(Sheet sheet, int level) {
            rankCells(sheet);
            unions.separate();
            for (int cell = 0; cell < CELLS; cell++) {
                raised[cell] = false;
            }
            int count = 0;
            for (int rank = 0; rank < CELLS && sheet.heights[ranked[rank]] >= level; rank++) {
                count += 1 - raise(ranked[rank]);
            }
            return count;
        }

        /** Returns how many sets of cells that are raised become one with the cell. */
        private int raise(int cell) {
            raised[cell] = true;
            int united = 0;
            for (int direction = 0; direction < DIRECTIONS; direction++) {
                int next = neighbour(cell, direction);
                if (next != NONE && raised[next] && unions.unite(cell, next)) {
                    united++;
                }
            }
            return united;
        }

        /** Each basin has just one end. */
        int countBasins(Sheet sheet) {
            int count = 0;
            for (int cell = 0; cell < CELLS; cell++) {
                if (sheet.flowOf(cell) == NONE) {
                    count++;
                }
            }
            return count;
        }

        int basinFollowed(Sheet sheet, int inside) {
            int end = sheet.endOf(inside);
            int count = 0;
            for (int cell = 0; cell < CELLS; cell++) {
                if (sheet.endOf(cell) == end) {
                    count++;
                }
            }
            return count;
        }

        int basinClimbed(Sheet sheet, int inside) {
            flood.dry();
            flood.reach(sheet.endOf(inside));
            for (int taken = 0; taken < CELLS; taken++) {
                int cell = flood.take();
                if (cell == NONE) {
                    return flood.reachedCount;
                }
                for (int direction = 0; direction < DIRECTIONS; direction++) {
                    int next = neighbour(cell, direction);
                    if (next != NONE && sheet.flowOf(next) == cell) {
                        flood.reach(next);
                    }
                }
            }
            return flood.reachedCount;
        }
    }

    /** The spill levels of all cells. */
    private static final class SpillLevels {
        /** Above each level, for cells from which no way out is known yet. */
        private static final int UNKNOWN = MOST_HEIGHT + 1;

        private final CellQueue queue = new CellQueue();
        private final int[] levels = new int[CELLS];

        int byQueue(Sheet sheet, int cell) {
            fillByQueue(sheet);
            return levels[cell];
        }

        int byRounds(Sheet sheet, int cell) {
            beginAtExits(sheet);
            boolean improved = true;
            for (int round = 0; round < CELLS && improved; round++) {
                improved = improveAll(sheet);
            }
            return levels[cell];
        }

        int volume(Sheet sheet) {
            fillByQueue(sheet);
            int sum = 0;
            for (int cell = 0; cell < CELLS; cell++) {
                sum += levels[cell] - sheet.heights[cell];
            }
            return sum;
        }

        private void beginAtExits(Sheet sheet) {
            for (int cell = 0; cell < CELLS; cell++) {
                boolean exit = isOnBorder(cell) || sheet.hasHole(cell);
                levels[cell] = exit ? sheet.heights[cell] : UNKNOWN;
            }
        }

        private void fillByQueue(Sheet sheet) {
            beginAtExits(sheet);
            for (int cell = 0; cell < CELLS; cell++) {
                if (levels[cell] != UNKNOWN) {
                    queue.put(cell, levels[cell]);
                }
            }
            // Cells are taken in ascending order of their levels, so none is put again once taken.
            for (int taken = 0; taken < CELLS; taken++) {
                int cell = queue.take();
                if (cell == NONE) {
                    return;
                }
                spread(sheet, cell);
            }
        }

        private void spread(Sheet sheet, int cell) {
            for (int direction = 0; direction < DIRECTIONS; direction++) {
                int next = neighbour(cell, direction);
                if (next != NONE && improve(sheet, next, cell)) {
                    queue.put(next, levels[next]);
                }
            }
        }

        private boolean improveAll(Sheet sheet) {
            boolean improved = false;
            for (int cell = 0; cell < CELLS; cell++) {
                for (int direction = 0; direction < DIRECTIONS; direction++) {
                    int next = neighbour(cell, direction);
                    if (next != NONE && improve(sheet, cell, next)) {
                        improved = true;
                    }
                }
            }
            return improved;
        }

        /** Returns whether the level of a cell becomes less by the way over a neighbour. */
        private boolean improve(Sheet sheet, int cell, int over) {
            int level = Math.max(sheet.heights[cell], levels[over]);
            if (level >= levels[cell]) {
                return false;
            }
            levels[cell] = level;
            return true;
        }
    }

    /** The costs and the steepest steps of routes; NONE answers that there is no route. */
    private static final class Routes {
        /** Above each cost, for cells to which no route is known yet. */
        private static final int UNKNOWN = 1000000;
        /** The pairs of neighbours, each counted once. */
        private static final int PAIRS = 2 * SIDE * (SIDE - 1);
        private static final int EAST = 1;
        private static final int SOUTH = 2;
        /** More than any number of a cell and a direction in the number of a pair. */
        private static final int PAIR_BASE = CELLS * DIRECTIONS;
        /** So many halvings leave one number of the range from 0 to 99. */
        private static final int HALVINGS = 7;

        private final CellQueue queue = new CellQueue();
        private final Flood flood = new Flood();
        private final Unions unions = new Unions();
        private final int[] costs = new int[CELLS];
        private final int[] pairs = new int[PAIRS];
        private int pairCount;

        int costByQueue(Sheet sheet, int from, int to) {
            if (sheet.hasHole(from) || sheet.hasHole(to)) {
                return NONE;
            }
            Arrays.fill(costs, UNKNOWN);
            costs[from] = 0;
            queue.put(from, 0);
            // Cells are taken in ascending order of their costs, so none is put again once taken.
            for (int taken = 0; taken < CELLS; taken++) {
                int cell = queue.take();
                if (cell == NONE) {
                    break;
                }
                spread(sheet, cell);
            }
            return knownCost(to);
        }

        int costByRounds(Sheet sheet, int from, int to) {
            if (sheet.hasHole(from) || sheet.hasHole(to)) {
                return NONE;
            }
            Arrays.fill(costs, UNKNOWN);
            costs[from] = 0;
            boolean improved = true;
            for (int round = 0; round < CELLS && improved; round++) {
                improved = improveAll(sheet);
            }
            return knownCost(to);
        }

        private int knownCost(int cell) {
            return costs[cell] == UNKNOWN ? NONE : costs[cell];
        }

        private void spread(Sheet sheet, int cell) {
            for (int direction = 0; direction < DIRECTIONS; direction++) {
                int next = neighbour(cell, direction);
                if (next != NONE && improve(sheet, next, cell)) {
                    queue.put(next, costs[next]);
                }
            }
        }

        private boolean improveAll(Sheet sheet) {
            boolean improved = false;
            for (int cell = 0; cell < CELLS; cell++) {
                for (int direction = 0; direction < DIRECTIONS; direction++) {
                    int next = neighbour(cell, direction);
                    if (next != NONE && improve(sheet, cell, next)) {
                        improved = true;
                    }
                }
            }
            return improved;
        }

        /** Returns whether the cost of a cell becomes less by the route over a neighbour. */
        private boolean improve(Sheet sheet, int cell, int over) {
            int cost = costs[over] + 1 + sheet.difference(cell, over);
            if (sheet.hasHole(cell) || cost >= costs[cell]) {
                return false;
            }
            costs[cell] = cost;
            return true;
        }

        int stepByUnions(Sheet sheet, int from, int to) {
            if (sheet.hasHole(from) || sheet.hasHole(to)) {
                return NONE;
            }
            if (from == to) {
                return 0;
            }
            rankPairs(sheet);
            unions.separate();
            for (int rank = 0; rank < pairCount; rank++) {
                int cell = pairs[rank] % PAIR_BASE / DIRECTIONS;
                int next = neighbour(cell, pairs[rank] % DIRECTIONS);
                if (next != NONE) {
                    unions.unite(cell, next);
                }
                if (unions.rootOf(from) == unions.rootOf(to)) {
                    return pairs[rank] / PAIR_BASE;
                }
            }
            return NONE;
        }

        /** Puts the pairs of neighbours without holes in ascending order of their differences. */
        private void rankPairs(Sheet sheet) {
            pairCount = 0;
            for (int cell = 0; cell < CELLS; cell++) {
                rankPair(sheet, cell, EAST);
                rankPair(sheet, cell, SOUTH);
            }
        }

        private void rankPair(Sheet sheet, int cell, int direction) {
            int next = neighbour(cell, direction);
            if (next == NONE || sheet.hasHole(cell) || sheet.hasHole(next) || pairCount >= PAIRS) {
                return;
            }
            // The difference stands ahead of the rest, so that numbers ascend as differences do.
            int pair = sheet.difference(cell, next) * PAIR_BASE + cell * DIRECTIONS + direction;
            int rank = pairCount;
            while (rank > 0 && pairs[rank - 1] > pair) {
                pairs[rank] = pairs[rank - 1];
                rank--;
            }
            pairs[rank] = pair;
            pairCount++;
        }

        int stepByHalving(Sheet sheet, int from, int to) {
            if (sheet.hasHole(from) || sheet.hasHole(to) || !leads(sheet, from, to, MOST_HEIGHT)) {
                return NONE;
            }
            int least = 0;
            int most = MOST_HEIGHT;
            for (int halving = 0; halving < HALVINGS && least < most; halving++) {
                int middle = (least + most) / 2;
                if (leads(sheet, from, to, middle)) {
                    most = middle;
                } else {
                    least = middle + 1;
                }
            }
            return most;
        }

        /** Returns whether a route leads from a cell to another one with no step above a number. */
        private boolean leads(Sheet sheet, int from, int to, int step) {
            flood.dry();
            flood.reach(from);
            for (int taken = 0; taken < CELLS; taken++) {
                int cell = flood.take();
                if (cell == NONE) {
                    break;
                }
                for (int direction = 0; direction < DIRECTIONS; direction++) {
                    int next = neighbour(cell, direction);
                    if (next != NONE && !sheet.hasHole(next) && sheet.difference(cell, next) <= step) {
                        flood.reach(next);
                    }
                }
            }
            return flood.reached[to];
        }
    }
}
