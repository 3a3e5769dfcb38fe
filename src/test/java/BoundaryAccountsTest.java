/** The boundary cases of promises 37 to 42: nights, water accounts, mean height and slopes. */
public final class BoundaryAccountsTest extends MapFixture {
    public static void main(String[] args) {
        nights();
        waterAccounts();
        accountsOfRefusedCalls();
        accountsOfNewHoles();
        meanHeight();
        slopeCells();
        slopesByNeighbours();
        Check.end();
    }

    private static void nights() {
        DustSheetMap map = new DustSheetMap();
        Check.due("37: no night", 0, () -> map.nights());
        for (int night = 1; night <= 400; night++) {
            map.passNight();
        }
        Check.due("37: no limit for nights", 400, () -> map.nights());
        Check.due("37: nights ahead do not pass", "throws.NoSuchElementException 400",
                () -> Check.answerOf(() -> map.nightsUntilHole(0, 0)) + " " + map.nights());
        Check.due("37: a night that is undone has not passed", "7 399", () -> map.undo() + " " + map.nights());
    }

    private static String accountsOf(DustSheetMap map) {
        return map.poured() + " = " + map.standing() + " + " + map.drained();
    }

    private static void waterAccounts() {
        DustSheetMap map = withHole(2, 2);
        Check.due("38 to 40: no water", "0 = 0 + 0", () -> accountsOf(map));
        map.pour(0, 0, 1);
        Check.due("38, 39: a unit stands", "1 = 1 + 0", () -> accountsOf(map));
        map.pour(2, 2, 1);
        Check.due("38, 40: a unit drains", "2 = 1 + 1", () -> accountsOf(map));
        map.pour(5, 5, 99);
        map.pour(2, 2, 99);
        Check.due("38 to 40: the greatest number of units", "200 = 100 + 100", () -> accountsOf(map));
        map.setHeight(2, 2, 0);
        map.pour(2, 3, 3);
        Check.due("40: it flows to a hole", "203 = 100 + 103", () -> accountsOf(map));
        map.setHeight(5, 4, 40);
        map.settle();
        Check.due("39: it stands elsewhere", "203 = 100 + 103", () -> accountsOf(map));
        for (int undone = 0; undone < 4; undone++) {
            map.undo();
        }
        Check.due("38 to 40: undone", "200 = 100 + 100", () -> accountsOf(map));
        map.undo();
        Check.due("40: what drained is undone", "101 = 100 + 1", () -> accountsOf(map));
        DustSheetMap all = new DustSheetMap();
        for (int cell = 0; cell < 36; cell++) {
            all.pour(cell / 6, cell % 6, 99);
        }
        Check.due("39: water on all cells", "3564 = 3564 + 0", () -> accountsOf(all));
        DustSheetMap much = withHole(3, 3);
        for (int i = 0; i < 400; i++) {
            much.pour(i % 4, i % 4, 99);
        }
        Check.due("38 to 40: no limit for water", "39600 = 29700 + 9900", () -> accountsOf(much));
    }

    private static void accountsOfRefusedCalls() {
        DustSheetMap map = new DustSheetMap();
        Check.due("38: refused, too few units", BAD_ARGUMENT, () -> map.pour(0, 0, 0));
        Check.due("38: refused, too many units", BAD_ARGUMENT, () -> map.pour(0, 0, 100));
        Check.due("38: refused, no such cell", NO_INDEX, () -> map.pour(6, 0, 9));
        Check.due("38: a text that fails pours nothing", DENIED, () -> run(map, "pour 00 9;pour 00 0"));
        Check.due("38 to 40: nothing was poured", "0 = 0 + 0", () -> accountsOf(map));
    }

    private static void accountsOfNewHoles() {
        DustSheetMap map = new DustSheetMap();
        map.pour(2, 2, 9);
        makeHole(map, 2, 2);
        Check.due("38 to 40: water on a new hole still stands", "9 = 9 + 0", () -> accountsOf(map));
        map.settle();
        Check.due("38 to 40: settled, it has drained", "9 = 0 + 9", () -> accountsOf(map));
        map.patch(2, 2);
        map.settle();
        Check.due("38 to 40: what has drained does not come back", "9 = 0 + 9", () -> accountsOf(map));
    }

    private static void meanHeight() {
        Check.due("41: the least mean", 0.0, () -> level(0).meanHeight());
        Check.due("41: the greatest mean", 99.0, () -> level(99).meanHeight());
        DustSheetMap map = level(0);
        map.setHeight(5, 5, 1);
        Check.due("41: the last cell counts", 1 / 36.0, () -> map.meanHeight());
        map.setHeight(0, 0, 1);
        Check.due("41: the first cell counts", 2 / 36.0, () -> map.meanHeight());
        for (int height = 2; height <= 99; height++) {
            int sum = height + 1;
            map.setHeight(5, 5, height);
            Check.due("41: the sum converted to double, divided by 36", (double) sum / 36.0, () -> map.meanHeight());
        }
    }

    private static void slopeCells() {
        noSuchCells("42: no such cell", (row, column) -> new DustSheetMap().slope(row, column));
        for (int cell : new int[] {0, 5, 50, 55, 23}) {
            Check.due("42: no slope", 0f, () -> level(99).slope(cell / 10, cell % 10));
            DustSheetMap pit = level(99);
            pit.setHeight(cell / 10, cell % 10, 0);
            Check.due("42: the greatest slope, of a pit", 99f, () -> pit.slope(cell / 10, cell % 10));
            DustSheetMap peak = level(0);
            peak.setHeight(cell / 10, cell % 10, 99);
            Check.due("42: the greatest slope, of a peak", 99f, () -> peak.slope(cell / 10, cell % 10));
        }
    }

    private static void slopesByNeighbours() {
        DustSheetMap corner = new DustSheetMap();
        corner.setHeight(0, 1, 51);
        Check.due("42: two neighbours", 1f / 2f, () -> corner.slope(0, 0));
        Check.due("42: three neighbours", 3f / 3f, () -> corner.slope(0, 1));
        Check.due("42: one of three neighbours", 1f / 3f, () -> corner.slope(0, 2));
        Check.due("42: one of four neighbours", 1f / 4f, () -> corner.slope(1, 1));
        corner.setHeight(1, 0, 48);
        Check.due("42: differences without sign", 3f / 2f, () -> corner.slope(0, 0));
        Check.due("42: differences without sign", 3f / 4f, () -> corner.slope(1, 1));
        for (int height = 53; height <= 99; height++) {
            int difference = height - 50;
            DustSheetMap map = new DustSheetMap();
            map.setHeight(5, 3, height);
            Check.due("42: the sum converted to float, divided", (float) difference / 3f, () -> map.slope(5, 2));
        }
        DustSheetMap ends = new DustSheetMap();
        ends.setHeight(1, 0, 99);
        Check.due("42: a row does not go on in the next", 0f, () -> ends.slope(0, 5));
        ends.setHeight(0, 5, 99);
        Check.due("42: the neighbours alone", 49f / 3f, () -> ends.slope(2, 0));
    }
}
