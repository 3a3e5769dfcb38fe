import java.util.ArrayList;
import java.util.List;
import java.util.function.Function;
import java.util.function.Supplier;

/**
 * A call that throws changes nothing but what its documentation says: each such call is made on a map
 * of its own for each view, and the view is compared with that of a map on which it was not made.
 * Maps of their own, as a map is promised 512 calls alone.
 */
public final class UnchangedTest extends MapFixture {
    /** A call that throws, with the name of its exception. */
    private record Refused(String name, String thrown, Function<DustSheetMap, Object> call) {
    }

    private static final List<Refused> REFUSED = new ArrayList<>();

    public static void main(String[] args) {
        wrongCells();
        wrongNumbers();
        wrongIndices();
        deniedCalls();
        noneToFind();
        for (Refused refused : REFUSED) {
            changesNothing(refused);
        }
        emptySheetCalls();
        feedOfAFullBuffer();
        wrongText();
        textThatFails();
        queriesChangeNothing();
        Check.end();
    }

    /**
     * A sheet with pegs, water, holes and 4 moths, one of them on a hole; with more than 8 changes, a snapshot
     * of another sheet, a line, a fault position, a denial with a cause, and "nig" in the buffer.
     */
    private static DustSheetMap rich() {
        DustSheetMap map = withHole(0, 1);
        makeHole(map, 1, 0);
        map.addMoth(0, 0);
        map.pour(2, 2, 7);
        map.saveSnapshot();
        run(map, "night;night;night");
        map.setHeight(3, 3, 20);
        map.pour(3, 4, 9);
        map.peg(4, 4);
        run(map, "moth 55;moth 54;height 52=99;settle");
        map.addMoth(5, 3);
        map.passNight();
        map.drape();
        map.peg(2, 1);
        map.undo();
        Check.answerOf(() -> run(map, "drapes"));
        Check.answerOf(() -> run(map, "night;peg 44"));
        map.writeRow(4);
        feed(map, "nig");
        return map;
    }

    private static void refused(String name, String thrown, Function<DustSheetMap, Object> call) {
        REFUSED.add(new Refused(name, thrown, call));
    }

    private static void wrongCells() {
        for (int[] cell : new int[][] {{-1, 0}, {6, 0}, {0, -1}, {0, 6}, {LEAST, MOST}}) {
            int r = cell[0];
            int c = cell[1];
            refused("setHeight", NO_INDEX, map -> map.setHeight(r, c, 3));
            refused("peg", NO_INDEX, map -> map.peg(r, c));
            refused("unpeg", NO_INDEX, map -> map.unpeg(r, c));
            refused("height", NO_INDEX, map -> map.height(r, c));
            refused("isPegged", NO_INDEX, map -> map.isPegged(r, c));
            refused("pour", NO_INDEX, map -> map.pour(r, c, 3));
            refused("water", NO_INDEX, map -> map.water(r, c));
            refused("endRow", NO_INDEX, map -> map.endRow(r, c));
            refused("endColumn", NO_INDEX, map -> map.endColumn(r, c));
            refused("basinSize", NO_INDEX, map -> map.basinSize(r, c));
            refused("basinSizeUpwards", NO_INDEX, map -> map.basinSizeUpwards(r, c));
            refused("spillLevel", NO_INDEX, map -> map.spillLevel(r, c));
            refused("spillLevelByRounds", NO_INDEX, map -> map.spillLevelByRounds(r, c));
            refused("routeCost", NO_INDEX, map -> map.routeCost(r, c, 3, 3));
            refused("routeCostByRounds", NO_INDEX, map -> map.routeCostByRounds(3, 3, r, c));
            refused("steepestStep", NO_INDEX, map -> map.steepestStep(r, c, 3, 3));
            refused("steepestStepByHalving", NO_INDEX, map -> map.steepestStepByHalving(3, 3, r, c));
            refused("addMoth", NO_INDEX, map -> map.addMoth(r, c));
            refused("patch", NO_INDEX, map -> map.patch(r, c));
            refused("wear", NO_INDEX, map -> map.wear(r, c));
            refused("nightsUntilHole", NO_INDEX, map -> map.nightsUntilHole(r, c));
            refused("slope", NO_INDEX, map -> map.slope(r, c));
        }
    }

    private static void wrongNumbers() {
        for (int level : new int[] {-1, 100, LEAST, MOST}) {
            refused("setHeight", BAD_ARGUMENT, map -> map.setHeight(0, 0, level));
            refused("islands", BAD_ARGUMENT, map -> map.islands(level));
            refused("islandsByUnions", BAD_ARGUMENT, map -> map.islandsByUnions(level));
        }
        for (int units : new int[] {-1, 0, 100, LEAST, MOST}) {
            refused("pour", BAD_ARGUMENT, map -> map.pour(0, 0, units));
        }
    }

    private static void wrongIndices() {
        for (int rank : new int[] {-1, 36, LEAST, MOST}) {
            refused("rowByHeight", NO_ELEMENT, map -> map.rowByHeight(rank));
            refused("columnByHeight", NO_ELEMENT, map -> map.columnByHeight(rank));
        }
        for (int index : new int[] {-1, 4, LEAST, MOST}) {
            refused("removeMoth", NO_INDEX, map -> map.removeMoth(index));
            refused("mothRow", NO_INDEX, map -> map.mothRow(index));
            refused("mothColumn", NO_INDEX, map -> map.mothColumn(index));
        }
        for (int index : new int[] {-1, 6, LEAST, MOST}) {
            refused("writeRow", NO_INDEX, map -> map.writeRow(index));
        }
        for (int index : new int[] {-1, 60, LEAST, MOST}) {
            refused("lineCharacter", NO_INDEX, map -> map.lineCharacter(index));
        }
    }

    private static void deniedCalls() {
        refused("setHeight, denial 6", DENIED, map -> map.setHeight(0, 4, map.height(0, 4)));
        refused("peg, denial 2", DENIED, map -> map.peg(4, 4));
        refused("unpeg, denial 2", DENIED, map -> map.unpeg(0, 0));
        refused("addMoth, denial 1", DENIED, map -> map.addMoth(3, 3));
        refused("patch, denial 5", DENIED, map -> map.patch(0, 0));
        refused("patch, denial 4", DENIED, map -> map.patch(2, 4));
    }

    private static void noneToFind() {
        refused("nightsUntilHole", NO_ELEMENT, map -> map.nightsUntilHole(5, 0));
        refused("routeCost", NO_ELEMENT, map -> map.routeCost(0, 1, 5, 5));
        refused("routeCostByRounds", NO_ELEMENT, map -> map.routeCostByRounds(5, 5, 0, 1));
        refused("steepestStep", NO_ELEMENT, map -> map.steepestStep(0, 1, 5, 5));
        refused("steepestStepByHalving", NO_ELEMENT, map -> map.steepestStepByHalving(5, 5, 0, 1));
    }

    private static void changesNothing(Refused refused) {
        Check.due("throws: " + refused.name, refused.thrown, () -> refused.call.apply(rich()));
        views(refused.name, UnchangedTest::rich, refused.call);
        same(refused.name + ": the fault position", UnchangedTest::rich, refused.call, map -> map.faultPosition());
        same(refused.name + ": the buffer", UnchangedTest::rich, refused.call, UnchangedTest::bufferOf);
        if (!refused.thrown.equals(DENIED)) {
            same(refused.name + ": the denial", UnchangedTest::rich, refused.call, map -> denialOf(map));
        }
    }

    private static void views(String name, Supplier<DustSheetMap> maker, Function<DustSheetMap, Object> call) {
        same(name + ": the sheet", maker, call, map -> sheetOf(map));
        same(name + ": the line", maker, call, UnchangedTest::wholeLineOf);
        int changes = maker.get().undoCount();
        same(name + ": the changes", maker, call, map -> map.undoCount());
        for (int undone = 1; undone <= changes; undone += changes > 1 ? changes - 1 : 1) {
            int count = undone;
            same(name + ": the sheet " + count + " changes ago", maker, call, map -> undo(map, count) + sheetOf(map));
        }
        same(name + ": the snapshot", maker, call, map -> map.restoreSnapshot() + " " + sheetOf(map));
    }

    private static void same(String what, Supplier<DustSheetMap> maker, Function<DustSheetMap, Object> call,
            Function<DustSheetMap, Object> view) {
        DustSheetMap untouched = maker.get();
        DustSheetMap touched = maker.get();
        Check.answerOf(() -> call.apply(touched));
        Check.same("stays: " + what, Check.answerOf(() -> view.apply(untouched)), Check.answerOf(() -> view.apply(touched)));
    }

    private static String undo(DustSheetMap map, int count) {
        StringBuilder left = new StringBuilder();
        for (int i = 0; i < count; i++) {
            left.append(map.undo()).append(' ');
        }
        return left.toString();
    }

    private static String wholeLineOf(DustSheetMap map) {
        StringBuilder line = new StringBuilder();
        for (int index = 0; index < 60; index++) {
            int i = index;
            line.append(Check.answerOf(() -> map.lineCharacter(i))).append(' ');
        }
        return line.toString();
    }

    /** What follows from the text in the buffer if it is "nig". */
    private static Object bufferOf(DustSheetMap map) {
        return map.feed('h') + " " + map.feed('t') + " " + map.execute() + " " + map.nights();
    }

    /** The calls that throw because there is nothing yet. */
    private static void emptySheetCalls() {
        List<Refused> calls = List.of(
                new Refused("removeMoth", NO_INDEX, map -> map.removeMoth(0)),
                new Refused("mothRow", NO_INDEX, map -> map.mothRow(0)),
                new Refused("mothColumn", NO_INDEX, map -> map.mothColumn(0)),
                new Refused("lineCharacter", NO_INDEX, map -> map.lineCharacter(0)),
                new Refused("faultPosition", NO_ELEMENT, map -> map.faultPosition()),
                new Refused("denial", NO_ELEMENT, map -> map.denial()),
                new Refused("denialDetail", NO_ELEMENT, map -> map.denialDetail()),
                new Refused("denialCause", NO_ELEMENT, map -> map.denialCause()),
                new Refused("undo", BAD_STATE, map -> map.undo()),
                new Refused("restoreSnapshot", BAD_STATE, map -> map.restoreSnapshot()),
                new Refused("nightsUntilHole", NO_ELEMENT, map -> map.nightsUntilHole(0, 0)));
        for (Refused refused : calls) {
            Check.due("throws on a new object: " + refused.name, refused.thrown, () -> refused.call.apply(new DustSheetMap()));
            views(refused.name + " on a new object", DustSheetMap::new, refused.call);
            same(refused.name + " on a new object: the fault position", DustSheetMap::new, refused.call, map -> map.faultPosition());
            same(refused.name + " on a new object: the denial", DustSheetMap::new, refused.call, map -> denialOf(map));
            same(refused.name + " on a new object: the buffer", DustSheetMap::new, refused.call, map -> map.feed('x'));
        }
    }

    private static void feedOfAFullBuffer() {
        Supplier<DustSheetMap> full = () -> {
            DustSheetMap map = rich();
            feed(map, "ht;night;night;night;night;night;night;night;height 05=12");
            return map;
        };
        Function<DustSheetMap, Object> call = map -> map.feed(';');
        Check.due("throws: feed", BAD_STATE, () -> call.apply(full.get()));
        views("feed", full, call);
        same("feed: the fault position", full, call, map -> map.faultPosition());
        same("feed: the denial", full, call, map -> denialOf(map));
        same("feed: the buffer", full, call, map -> map.execute() + " " + map.nights() + " " + map.height(0, 5));
    }

    private static void wrongText() {
        Function<DustSheetMap, Object> call = map -> run(map, "ht;peg 00;height 00=500");
        Check.due("throws: a wrong text", BAD_ARGUMENT, () -> call.apply(rich()));
        views("a wrong text", UnchangedTest::rich, call);
        same("a wrong text: the denial", UnchangedTest::rich, call, map -> denialOf(map));
        DustSheetMap map = rich();
        Check.answerOf(() -> call.apply(map));
        Check.due("44: the fault position is kept", 25, () -> map.faultPosition());
        Check.due("44: the buffer is empty", 1, () -> map.feed('x'));
    }

    private static void textThatFails() {
        for (String text : new String[] {"ht;free 00", "ht;peg 66", "ht;height 00=0;drape;pour 44 9;swat 0;patch 00;swat 3"}) {
            Function<DustSheetMap, Object> call = map -> run(map, text);
            Check.due("throws: a text that fails", DENIED, () -> call.apply(rich()));
            views("a text that fails", UnchangedTest::rich, call);
            same("a text that fails: the fault position", UnchangedTest::rich, call, map -> map.faultPosition());
            DustSheetMap map = rich();
            Check.answerOf(() -> call.apply(map));
            Check.due("44: denied: 7", 7, () -> map.denial());
            Check.due("44: the buffer is empty", 1, () -> map.feed('x'));
        }
    }

    /** Calls that only answer leave everything as it is, too. */
    private static void queriesChangeNothing() {
        List<Refused> calls = List.of(
                new Refused("rowByHeight", "", map -> map.rowByHeight(3)),
                new Refused("islands", "", map -> map.islands(50)),
                new Refused("islandsByUnions", "", map -> map.islandsByUnions(50)),
                new Refused("endRow", "", map -> map.endRow(3, 4)),
                new Refused("basins", "", map -> map.basins()),
                new Refused("basinSize", "", map -> map.basinSize(3, 4)),
                new Refused("basinSizeUpwards", "", map -> map.basinSizeUpwards(3, 4)),
                new Refused("spillLevel", "", map -> map.spillLevel(3, 3)),
                new Refused("spillLevelByRounds", "", map -> map.spillLevelByRounds(3, 3)),
                new Refused("pondVolume", "", map -> map.pondVolume()),
                new Refused("routeCost", "", map -> map.routeCost(3, 3, 5, 5)),
                new Refused("routeCostByRounds", "", map -> map.routeCostByRounds(3, 3, 5, 5)),
                new Refused("steepestStep", "", map -> map.steepestStep(3, 3, 5, 5)),
                new Refused("steepestStepByHalving", "", map -> map.steepestStepByHalving(3, 3, 5, 5)),
                new Refused("nightsUntilHole", "", map -> map.nightsUntilHole(5, 3)),
                new Refused("holes", "", map -> map.holes()),
                new Refused("meanHeight", "", map -> map.meanHeight()),
                new Refused("slope", "", map -> map.slope(3, 4)),
                new Refused("undoCount", "", map -> map.undoCount()));
        for (Refused query : calls) {
            views("query " + query.name, UnchangedTest::rich, query.call);
        }
    }
}
