import java.util.LinkedHashMap;
import java.util.List;
import java.util.Map;
import java.util.Set;
import java.util.function.Consumer;
import java.util.function.Function;

/**
 * What the document does not name, an answer does not depend on, and a change does not change: sheets
 * with the same heights and with pegs, water, moths, worn cells or holes besides give the same answers.
 */
public final class IndependenceTest extends MapFixture {
    /** Two peaks, a bowl that is closed all around, slopes, cells of equal heights beside one another. */
    private static final String PICTURE =
            "60 62 50 50 99 80 "
            + "61 70 70 70 40 81 "
            + "50 70 20 30 70 81 "
            + "48 71 25 75 70 50 "
            + "47 70 70 72 30 49 "
            + "00 46 52 50 50 99";

    private static final Map<String, Consumer<DustSheetMap>> ADDED = new LinkedHashMap<>();

    public static void main(String[] args) {
        ADDED.put("pegs", IndependenceTest::pegAll);
        ADDED.put("water", IndependenceTest::wetAll);
        ADDED.put("moths", IndependenceTest::addMoths);
        ADDED.put("worn cells", IndependenceTest::wearSome);
        ADDED.put("holes", IndependenceTest::makeHoles);
        ADDED.put("nights", IndependenceTest::passNights);
        answersByHeightsAlone();
        answersByHeightsAndHoles();
        draping();
        wateredSheets();
        nightFlights();
        changesAndWhatTheyChange();
        Check.end();
    }

    private static void pegAll(DustSheetMap map) {
        for (int cell = 0; cell < 36; cell++) {
            map.peg(cell / 6, cell % 6);
        }
    }

    /** On a flat sheet water stands on each cell. */
    private static void wetAll(DustSheetMap map) {
        for (int cell = 0; cell < 36; cell++) {
            map.pour(cell / 6, cell % 6, cell + 1);
        }
    }

    private static void addMoths(DustSheetMap map) {
        map.addMoth(0, 1);
        map.addMoth(2, 2);
        map.addMoth(2, 4);
        map.addMoth(5, 3);
    }

    private static void wearSome(DustSheetMap map) {
        wearDown(map, 2, 2, 2);
        wearDown(map, 3, 2, 1);
        wearDown(map, 0, 1, 2);
        wearDown(map, 1, 1, 2);
        wearDown(map, 1, 4, 2);
    }

    /** Among them a peak that is an island of its own, and a cell that alone connects others of 70. */
    private static void makeHoles(DustSheetMap map) {
        makeHole(map, 5, 5);
        makeHole(map, 3, 1);
        makeHole(map, 2, 2);
        makeHole(map, 4, 4);
        makeHole(map, 0, 1);
        makeHole(map, 1, 4);
    }

    private static void passNights(DustSheetMap map) {
        for (int night = 0; night < 9; night++) {
            map.passNight();
        }
    }

    /** A sheet with the heights of the picture, after something was done to the flat sheet. */
    private static DustSheetMap sheet(Consumer<DustSheetMap> first) {
        DustSheetMap map = new DustSheetMap();
        first.accept(map);
        String[] numbers = PICTURE.split(" ");
        for (int cell = 0; cell < 36; cell++) {
            int height = Integer.parseInt(numbers[cell]);
            if (height != map.height(cell / 6, cell % 6)) {
                map.setHeight(cell / 6, cell % 6, height);
            }
        }
        return map;
    }

    /** The answers are the same on the bare sheet and on sheets with anything else but what counts. */
    private static void onlyBy(String what, Set<String> counting, Consumer<DustSheetMap> bare,
            Function<DustSheetMap, String> answers) {
        String want = answers.apply(sheet(bare));
        for (Map.Entry<String, Consumer<DustSheetMap>> added : ADDED.entrySet()) {
            if (!counting.contains(added.getKey())) {
                String got = answers.apply(sheet(bare.andThen(added.getValue())));
                Check.same(what + " with " + added.getKey(), want, got);
            }
        }
    }

    private static String ofAllCells(CellCall call) {
        StringBuilder answers = new StringBuilder();
        for (int cell = 0; cell < 36; cell++) {
            int row = cell / 6;
            int column = cell % 6;
            answers.append(Check.answerOf(() -> call.run(row, column))).append(' ');
        }
        return answers.toString();
    }

    private static String ofAllNumbers(int count, Function<Integer, Object> call) {
        StringBuilder answers = new StringBuilder();
        for (int number = 0; number < count; number++) {
            int asked = number;
            answers.append(Check.answerOf(() -> call.apply(asked))).append(' ');
        }
        return answers.toString();
    }

    private static void answersByHeightsAlone() {
        Consumer<DustSheetMap> bare = map -> { };
        Set<String> none = Set.of();
        onlyBy("6: height", none, bare, map -> ofAllCells(map::height));
        onlyBy("8: rowByHeight", none, bare, map -> ofAllNumbers(36, map::rowByHeight));
        onlyBy("9: columnByHeight", none, bare, map -> ofAllNumbers(36, map::columnByHeight));
        onlyBy("10: islands", none, bare, map -> ofAllNumbers(100, map::islands));
        onlyBy("11: islandsByUnions", none, bare, map -> ofAllNumbers(100, map::islandsByUnions));
        onlyBy("41: meanHeight", none, bare, map -> "" + map.meanHeight());
        onlyBy("42: slope", none, bare, map -> ofAllCells(map::slope));
    }

    private static void answersByHeightsAndHoles() {
        for (Consumer<DustSheetMap> bare : List.<Consumer<DustSheetMap>>of(map -> { }, map -> makeHole(map, 3, 3))) {
            Set<String> holes = Set.of("holes");
            onlyBy("15: endRow", holes, bare, map -> ofAllCells(map::endRow));
            onlyBy("16: endColumn", holes, bare, map -> ofAllCells(map::endColumn));
            onlyBy("17: basins", holes, bare, map -> "" + map.basins());
            onlyBy("18: basinSize", holes, bare, map -> ofAllCells(map::basinSize));
            onlyBy("19: basinSizeUpwards", holes, bare, map -> ofAllCells(map::basinSizeUpwards));
            onlyBy("20: spillLevel", holes, bare, map -> ofAllCells(map::spillLevel));
            onlyBy("21: spillLevelByRounds", holes, bare, map -> ofAllCells(map::spillLevelByRounds));
            onlyBy("22: pondVolume", holes, bare, map -> "" + map.pondVolume());
            onlyBy("23: routeCost", holes, bare, map -> ofAllCells((row, column) -> map.routeCost(2, 2, row, column)));
            onlyBy("24: routeCostByRounds", holes, bare,
                    map -> ofAllCells((row, column) -> map.routeCostByRounds(row, column, 0, 0)));
            onlyBy("25: steepestStep", holes, bare, map -> ofAllCells((row, column) -> map.steepestStep(2, 2, row, column)));
            onlyBy("26: steepestStepByHalving", holes, bare,
                    map -> ofAllCells((row, column) -> map.steepestStepByHalving(row, column, 0, 0)));
        }
        Check.due("22: what a hole's spill level exceeds its height is nothing, worn or not", "0 0", () -> {
            DustSheetMap map = withHole(2, 2);
            int level = map.pondVolume();
            map.setHeight(2, 2, 10);
            return level + " " + map.pondVolume();
        });
        Check.due("22: a worn cell is not a hole", 40, () -> {
            DustSheetMap map = new DustSheetMap();
            wearDown(map, 2, 2, 2);
            map.setHeight(2, 2, 10);
            return map.pondVolume();
        });
        Check.due("22: two low cells of a plateau, one with a hole", 49, () -> {
            DustSheetMap map = withHole(4, 4);
            for (int cell = 0; cell < 36; cell++) {
                if (cell != 14 && cell != 28) {
                    map.setHeight(cell / 6, cell % 6, 99);
                }
            }
            return map.pondVolume();
        });
    }

    private static void draping() {
        onlyBy("5: drape", Set.of("pegs"), map -> { }, map -> map.drape() + ": " + ofAllCells(map::height));
        onlyBy("5: drape with a peg", Set.of("pegs"), map -> map.peg(2, 2),
                map -> map.drape() + ": " + ofAllCells(map::height));
    }

    private static void wateredSheets() {
        Set<String> holesAndWater = Set.of("holes", "water");
        onlyBy("12: pour", Set.of("holes"), map -> { }, map -> ofAllCells((row, column) -> map.pour(row, column, 5)));
        onlyBy("12: pour beside a hole", Set.of("holes"), map -> makeHole(map, 3, 3),
                map -> ofAllCells((row, column) -> map.pour(row, column, 5)));
        onlyBy("12: where it stands", holesAndWater, map -> { }, map -> {
            ofAllCells((row, column) -> map.pour(row, column, 5));
            return ofAllCells(map::water);
        });
        onlyBy("13: settle", holesAndWater, IndependenceTest::wetAll, map -> map.settle() + ": " + ofAllCells(map::water));
        onlyBy("14: water", Set.of("water"), IndependenceTest::wetAll, map -> ofAllCells(map::water));
        onlyBy("39: standing", Set.of("water"), IndependenceTest::wetAll, map -> "" + map.standing() + map.drained());
    }

    private static void nightFlights() {
        Consumer<DustSheetMap> bare = map -> { };
        Set<String> wearAndMoths = Set.of("worn cells", "holes", "moths");
        onlyBy("29: five nights", wearAndMoths, bare, map -> {
            addMoths(map);
            return ofAllNumbers(5, night -> map.passNight()) + mothsOf(map) + ofAllCells(map::wear);
        });
        onlyBy("29: a flight of each moth", Set.of("holes", "moths"), bare, map -> {
            addMoths(map);
            map.passNight();
            return mothsOf(map);
        });
        onlyBy("36: nightsUntilHole", wearAndMoths, bare, map -> {
            addMoths(map);
            return ofAllCells(map::nightsUntilHole);
        });
    }

    /** What changes can change, by its name. */
    private static Map<String, String> partsOf(DustSheetMap map) {
        Map<String, String> parts = new LinkedHashMap<>();
        parts.put("heights", ofAllCells(map::height));
        parts.put("pegs", ofAllCells(map::isPegged));
        parts.put("water", ofAllCells(map::water));
        parts.put("wear", ofAllCells(map::wear));
        parts.put("moths", mothsOf(map));
        parts.put("nights", "" + map.nights());
        parts.put("poured", "" + map.poured());
        parts.put("drained", "" + map.drained());
        return parts;
    }

    /** A sheet with everything: a cell with a peg, water and a hole, a moth on a worn one, water on slopes. */
    private static DustSheetMap fullSheet() {
        return sheet(map -> {
            wetAll(map);
            wearSome(map);
            makeHole(map, 3, 3);
            for (int cell = 0; cell < 36; cell += 3) {
                map.peg(cell / 6, cell % 6);
            }
            map.addMoth(0, 1);
            map.addMoth(2, 4);
        });
    }

    /** The change alters just the parts that are named. */
    private static void changesOnly(String what, Set<String> altered, Consumer<DustSheetMap> change) {
        Map<String, String> before = partsOf(fullSheet());
        DustSheetMap map = fullSheet();
        change.accept(map);
        for (Map.Entry<String, String> part : partsOf(map).entrySet()) {
            String same = "" + part.getValue().equals(before.get(part.getKey()));
            Check.same(what + " leaves the " + part.getKey(), "" + !altered.contains(part.getKey()), same);
        }
    }

    private static void changesAndWhatTheyChange() {
        changesOnly("2: setHeight", Set.of("heights"), map -> map.setHeight(3, 3, 9));
        changesOnly("2: setHeight of a lower cell", Set.of("heights"), map -> map.setHeight(1, 1, 0));
        changesOnly("3: peg", Set.of("pegs"), map -> map.peg(2, 2));
        changesOnly("4: unpeg of a hole", Set.of("pegs"), map -> map.unpeg(3, 3));
        changesOnly("5: drape", Set.of("heights"), map -> map.drape());
        changesOnly("12: pour that stands", Set.of("water", "poured"), map -> map.pour(2, 2, 9));
        changesOnly("12: pour that drains", Set.of("poured", "drained"), map -> map.pour(3, 3, 9));
        changesOnly("13: settle", Set.of("water", "drained"), map -> map.settle());
        changesOnly("27: addMoth", Set.of("moths"), map -> map.addMoth(3, 2));
        changesOnly("28: removeMoth", Set.of("moths"), map -> map.removeMoth(0));
        changesOnly("29: a night that makes a hole under water", Set.of("moths", "wear", "nights"),
                map -> Check.due("29: a new hole", "1 true", () -> map.passNight() + " " + (map.water(1, 1) > 0)));
        changesOnly("30: patch of a hole", Set.of("wear"), map -> map.patch(3, 3));
        changesOnly("30: patch of a worn cell", Set.of("wear"), map -> map.patch(2, 2));
        changesOnly("44: a text of a command", Set.of("wear"), map -> run(map, "patch 33"));
    }
}
