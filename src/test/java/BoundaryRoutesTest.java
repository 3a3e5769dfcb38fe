/** The boundary cases of promises 23 to 26: routes by cost and by their steepest step. */
public final class BoundaryRoutesTest extends MapFixture {
    /** A call that takes the first and the last cell of a route. */
    private interface RouteCall {
        Object run(int row, int column, int toRow, int toColumn);
    }

    public static void main(String[] args) {
        noSuchCell("23", (r, c, tr, tc) -> hilly().routeCost(r, c, tr, tc), (r, c, tr, tc) -> cornered().routeCost(r, c, tr, tc));
        noSuchCell("24", (r, c, tr, tc) -> hilly().routeCostByRounds(r, c, tr, tc),
                (r, c, tr, tc) -> cornered().routeCostByRounds(r, c, tr, tc));
        noSuchCell("25", (r, c, tr, tc) -> hilly().steepestStep(r, c, tr, tc),
                (r, c, tr, tc) -> cornered().steepestStep(r, c, tr, tc));
        noSuchCell("26", (r, c, tr, tc) -> hilly().steepestStepByHalving(r, c, tr, tc),
                (r, c, tr, tc) -> cornered().steepestStepByHalving(r, c, tr, tc));
        toItself();
        oneStep();
        eachSteepness();
        atEdges();
        dearest();
        cheapIsNotGentle();
        holesAtEnds();
        noWay();
        oneWay();
        roundOneHole();
        firstAndLaterCalls();
        nothingChanges();
        Check.end();
    }

    private static DustSheetMap hilly() {
        DustSheetMap map = new DustSheetMap();
        map.setHeight(0, 0, 0);
        map.setHeight(5, 5, 99);
        return map;
    }

    /** A sheet whose first cell is cut off by holes. */
    private static DustSheetMap cornered() {
        DustSheetMap map = withHole(0, 1);
        makeHole(map, 1, 0);
        return map;
    }

    private static void noSuchCell(String promise, RouteCall call, RouteCall withoutRoute) {
        for (int[] cell : NO_CELLS) {
            String name = cell[0] + ", " + cell[1];
            Check.due(promise + ": no first cell " + name, NO_INDEX, () -> call.run(cell[0], cell[1], 5, 5));
            Check.due(promise + ": no last cell " + name, NO_INDEX, () -> call.run(5, 5, cell[0], cell[1]));
            Check.due(promise + ": neither cell " + name, NO_INDEX, () -> call.run(cell[0], cell[1], cell[0], cell[1]));
        }
        Check.due(promise + ": no last cell ahead of no route", NO_INDEX, () -> withoutRoute.run(0, 1, 0, 6));
        Check.due(promise + ": no last cell ahead of no route", NO_INDEX, () -> withoutRoute.run(0, 1, 6, 0));
        Check.due(promise + ": no first cell ahead of no route", NO_INDEX, () -> withoutRoute.run(-1, 0, 0, 1));
        Check.due(promise + ": no first cell ahead of no route", NO_INDEX, () -> withoutRoute.run(0, -1, 1, 0));
    }

    private static void costIs(String what, DustSheetMap map, int from, int to, Object cost) {
        String way = ", " + from + " to " + to;
        Check.due("23: " + what + way, cost, () -> map.routeCost(from / 10, from % 10, to / 10, to % 10));
        Check.due("24: " + what + way, cost, () -> map.routeCostByRounds(from / 10, from % 10, to / 10, to % 10));
    }

    private static void stepIs(String what, DustSheetMap map, int from, int to, Object step) {
        String way = ", " + from + " to " + to;
        Check.due("25: " + what + way, step, () -> map.steepestStep(from / 10, from % 10, to / 10, to % 10));
        Check.due("26: " + what + way, step, () -> map.steepestStepByHalving(from / 10, from % 10, to / 10, to % 10));
    }

    private static void toItself() {
        for (int cell : new int[] {0, 5, 50, 55, 22}) {
            costIs("no steps, no cost", hilly(), cell, cell, 0);
            stepIs("no steps", hilly(), cell, cell, 0);
        }
        DustSheetMap island = cornered();
        costIs("to itself, though nowhere else", island, 0, 0, 0);
        stepIs("to itself, though nowhere else", island, 0, 0, 0);
    }

    private static void oneStep() {
        DustSheetMap flat = new DustSheetMap();
        for (int next : new int[] {12, 23, 32, 21}) {
            costIs("a level step costs 1", flat, 22, next, 1);
            costIs("a level step costs 1", flat, next, 22, 1);
            stepIs("a level step", flat, 22, next, 0);
        }
        DustSheetMap map = level(0);
        map.setHeight(0, 0, 1);
        costIs("a step down of 1", map, 0, 1, 2);
        costIs("a step up of 1", map, 1, 0, 2);
        stepIs("a step down of 1", map, 0, 1, 1);
        stepIs("a step up of 1", map, 1, 0, 1);
        map.setHeight(0, 0, 99);
        costIs("the steepest step down", map, 0, 1, 100);
        costIs("the steepest step up", map, 1, 0, 100);
        stepIs("the steepest step down", map, 0, 1, 99);
        stepIs("the steepest step up", map, 1, 0, 99);
    }

    private static void eachSteepness() {
        DustSheetMap map = level(0);
        for (int height = 1; height <= 99; height++) {
            map.setHeight(5, 5, height);
            int step = height;
            Check.due("25: a step of " + step, step, () -> map.steepestStep(5, 5, 5, 4));
            Check.due("26: a step of " + step, step, () -> map.steepestStepByHalving(5, 5, 5, 4));
        }
    }

    private static void atEdges() {
        DustSheetMap flat = new DustSheetMap();
        costIs("a row does not go on in the next", flat, 5, 10, 6);
        costIs("from the first row to the last", flat, 0, 50, 5);
        costIs("from the first column to the last", flat, 0, 5, 5);
        costIs("from corner to corner", flat, 0, 55, 10);
        costIs("from corner to corner", flat, 50, 5, 10);
        DustSheetMap map = level(99);
        map.setHeight(0, 5, 0);
        map.setHeight(1, 0, 0);
        stepIs("a row does not go on in the next", map, 5, 10, 99);
        DustSheetMap sides = level(99);
        sides.setHeight(0, 2, 0);
        sides.setHeight(5, 2, 0);
        stepIs("opposite sides are no neighbours", sides, 2, 52, 99);
        int[][] corners = {{0, 1, 10}, {0, 10, 1}, {5, 4, 15}, {5, 15, 4}, {50, 40, 51}, {50, 51, 40}, {55, 54, 45}, {55, 45, 54}};
        for (int[] corner : corners) {
            DustSheetMap angled = level(0);
            angled.setHeight(corner[2] / 10, corner[2] % 10, 99);
            stepIs("each corner has two neighbours", angled, corner[0], corner[1], 0);
            costIs("each corner has two neighbours", angled, corner[0], corner[1], 1);
            stepIs("each corner has two neighbours", angled, corner[1], corner[2], 99);
        }
    }

    private static void dearest() {
        DustSheetMap map = new DustSheetMap();
        for (int cell = 0; cell < 36; cell++) {
            map.setHeight(cell / 6, cell % 6, (cell / 6 + cell % 6) % 2 == 0 ? 0 : 99);
        }
        costIs("each step costs 100", map, 0, 55, 1000);
        costIs("each step costs 100", map, 55, 0, 1000);
        stepIs("each step is as steep as can be", map, 0, 55, 99);
    }

    private static void cheapIsNotGentle() {
        DustSheetMap map = mapOf(
                "0 90 0 99 99 99 "
                + "9 90 9 99 99 99 "
                + "18 90 18 99 99 99 "
                + "27 90 27 99 99 99 "
                + "36 45 36 99 99 99 "
                + "99 99 99 99 99 99");
        // Across: 2 steps and 180. Round: 10 steps, 45 down and 45 up.
        costIs("round is cheaper", map, 0, 2, 100);
        stepIs("round is gentler", map, 0, 2, 9);
        map.setHeight(0, 1, 48);
        costIs("across is cheaper", map, 0, 2, 98);
        stepIs("round is gentler still", map, 0, 2, 9);
        map.setHeight(0, 1, 49);
        costIs("equally dear", map, 0, 2, 100);
        map.setHeight(0, 1, 9);
        costIs("across is cheaper", map, 0, 2, 20);
        stepIs("equally gentle", map, 0, 2, 9);
        map.setHeight(0, 1, 8);
        stepIs("across is gentler", map, 0, 2, 8);
    }

    private static void holesAtEnds() {
        DustSheetMap map = withHole(2, 2);
        costIs("the first cell has a hole", map, 22, 0, NO_ELEMENT);
        costIs("the last cell has a hole", map, 0, 22, NO_ELEMENT);
        costIs("the only cell has a hole", map, 22, 22, NO_ELEMENT);
        costIs("a neighbour of the hole", map, 22, 23, NO_ELEMENT);
        stepIs("the first cell has a hole", map, 22, 0, NO_ELEMENT);
        stepIs("the last cell has a hole", map, 0, 22, NO_ELEMENT);
        stepIs("the only cell has a hole", map, 22, 22, NO_ELEMENT);
        stepIs("a neighbour of the hole", map, 22, 23, NO_ELEMENT);
        costIs("round the hole", map, 21, 23, 4);
        DustSheetMap worn = new DustSheetMap();
        wearDown(worn, 2, 2, 2);
        costIs("wear 2 is no hole", worn, 21, 23, 2);
        costIs("wear 2 is no hole", worn, 22, 22, 0);
        stepIs("wear 2 is no hole", worn, 22, 23, 0);
        map.patch(2, 2);
        costIs("a patched hole", map, 21, 23, 2);
        stepIs("a patched hole", map, 22, 23, 0);
    }

    private static void noWay() {
        DustSheetMap map = cornered();
        for (int to : new int[] {11, 55, 2, 20}) {
            costIs("no way out", map, 0, to, NO_ELEMENT);
            costIs("no way in", map, to, 0, NO_ELEMENT);
            stepIs("no way out", map, 0, to, NO_ELEMENT);
            stepIs("no way in", map, to, 0, NO_ELEMENT);
        }
        costIs("outside", map, 11, 55, 8);
        map.patch(0, 1);
        costIs("a way again", map, 0, 11, 2);
        stepIs("a way again", map, 0, 11, 0);
    }

    private static void oneWay() {
        // Holes in row 1 but for its last cell and in row 3 but for its first one.
        DustSheetMap map = new DustSheetMap();
        for (int column = 0; column < 5; column++) {
            makeHole(map, 1, column);
        }
        for (int column = 5; column > 0; column--) {
            makeHole(map, 3, column);
        }
        Check.due("35: ten holes", 10, () -> map.holes());
        costIs("the only way", map, 0, 50, 15);
        costIs("the only way back", map, 55, 0, 20);
        stepIs("the only way", map, 0, 50, 0);
        map.setHeight(2, 3, 99);
        map.setHeight(4, 4, 0);
        costIs("over a peak", map, 0, 50, 15 + 98);
        stepIs("over a peak", map, 0, 50, 49);
        stepIs("over a peak back", map, 50, 0, 49);
        costIs("a pit beside the way", map, 0, 44, 18 + 98 + 50);
        stepIs("into the pit", map, 0, 44, 50);
    }

    /** A hole does not connect its neighbours: the ways between them go round, over a peak on one side. */
    private static void roundOneHole() {
        int[][] besides = {{12, 21, 11}, {12, 23, 13}, {32, 21, 31}, {32, 23, 33}};
        for (int[] beside : besides) {
            DustSheetMap map = withHole(2, 2);
            costIs("past a corner of the hole", map, beside[0], beside[1], 2);
            map.setHeight(beside[2] / 10, beside[2] % 10, 51);
            costIs("over the corner", map, beside[0], beside[1], 4);
            stepIs("round the other side", map, beside[0], beside[1], 0);
            map.setHeight(beside[0] / 10, beside[0] % 10, 60);
            stepIs("down from the first cell", map, beside[0], beside[1], 9);
        }
        DustSheetMap map = withHole(1, 1);
        map.setHeight(0, 0, 80);
        map.setHeight(2, 0, 99);
        costIs("the last way round", map, 1, 10, 62);
        stepIs("the last way round", map, 1, 10, 30);
        stepIs("the last way round", map, 10, 1, 30);
    }

    private static DustSheetMap bent() {
        DustSheetMap map = new DustSheetMap();
        map.setHeight(0, 1, 60);
        map.setHeight(1, 1, 57);
        map.setHeight(1, 0, 53);
        return map;
    }

    private static void firstAndLaterCalls() {
        Check.due("23: the first call", 11, () -> bent().routeCost(0, 0, 0, 1));
        Check.due("24: the first call", 11, () -> bent().routeCostByRounds(0, 0, 0, 1));
        Check.due("25: the first call", 4, () -> bent().steepestStep(0, 0, 0, 1));
        Check.due("26: the first call", 4, () -> bent().steepestStepByHalving(0, 0, 0, 1));
        Check.due("24: the first call", 10, () -> new DustSheetMap().routeCostByRounds(0, 0, 5, 5));
        DustSheetMap map = new DustSheetMap();
        costIs("a flat sheet", map, 0, 1, 1);
        stepIs("a flat sheet", map, 0, 1, 0);
        map.setHeight(0, 0, 99);
        costIs("a peak that has come", map, 0, 1, 50);
        stepIs("a peak that has come", map, 0, 1, 49);
        costIs("other cells of the same sheet", map, 54, 55, 1);
        stepIs("other cells of the same sheet", map, 54, 55, 0);
        map.setHeight(0, 0, 51);
        costIs("a peak that has gone", map, 0, 1, 2);
        stepIs("a peak that has gone", map, 0, 1, 1);
    }

    private static void nothingChanges() {
        DustSheetMap map = hilly();
        String before = sheetOf(map);
        map.routeCost(0, 0, 5, 5);
        map.routeCostByRounds(0, 0, 5, 5);
        map.steepestStep(0, 0, 5, 5);
        map.steepestStepByHalving(0, 0, 5, 5);
        Check.same("23 to 26: nothing changes", before, sheetOf(map));
        Check.due("23 to 26: no change", 2, () -> map.undoCount());
    }
}
