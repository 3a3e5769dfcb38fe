/** The boundary cases of promises 12 to 22: pouring, settling, ends, basins, spill levels and ponds. */
public final class BoundaryWaterTest extends MapFixture {
    public static void main(String[] args) {
        pourRange();
        pourOrder();
        pourOnEnds();
        settleDry();
        settleWet();
        settleIntoHoles();
        water();
        endsOfLevelCells();
        endsByDirection();
        endsAtEdges();
        endsOfLongWays();
        endsAtHoles();
        basinsFewAndMany();
        basinsSplit();
        spillCells();
        spillAtBorder();
        spillInside();
        spillAtHoles();
        spillFirstAndLater();
        pondsEmptyAndFull();
        Check.end();
    }

    private static void pourRange() {
        DustSheetMap map = new DustSheetMap();
        Check.due("12: the least number of units", "0 1", () -> map.pour(0, 0, 1) + " " + map.water(0, 0));
        Check.due("12: the greatest number of units", "0 99", () -> map.pour(5, 5, 99) + " " + map.water(5, 5));
        for (int units : new int[] {0, 100, -1, -99, LEAST, MOST, 256 + 7, 65536 + 7}) {
            Check.due("12: " + units + " units", BAD_ARGUMENT, () -> map.pour(2, 3, units));
        }
        Check.due("12: refused, nothing is poured", "100 100 0 0", () -> map.poured() + " " + map.standing() + " "
                + map.drained() + " " + map.water(2, 3));
        Check.due("12: refused, no change", 2, () -> map.undoCount());
        Check.due("12: refused, no denial", NO_ELEMENT, () -> map.denial());
    }

    private static void pourOrder() {
        noSuchCells("12: no such cell", (row, column) -> new DustSheetMap().pour(row, column, 1));
        DustSheetMap map = new DustSheetMap();
        Check.due("12: the row ahead of the units", NO_INDEX, () -> map.pour(6, 0, 0));
        Check.due("12: the row ahead of the units", NO_INDEX, () -> map.pour(-1, 0, 100));
        Check.due("12: the column ahead of the units", NO_INDEX, () -> map.pour(0, 6, 0));
        Check.due("12: the column ahead of the units", NO_INDEX, () -> map.pour(0, -1, 100));
    }

    private static void pourOnEnds() {
        DustSheetMap map = new DustSheetMap();
        map.setHeight(2, 2, 49);
        Check.due("12: on a pit", "0 99", () -> map.pour(2, 2, 99) + " " + map.water(2, 2));
        Check.due("12: on a cell that is one higher, it flows on at once", "0 0 198", () -> map.pour(2, 3, 99) + " "
                + map.water(2, 3) + " " + map.water(2, 2));
        Check.due("12: on a cell as high as its neighbours, it stands", "0 5", () -> map.pour(5, 5, 5) + " " + map.water(5, 5));
        DustSheetMap holed = withHole(3, 3);
        Check.due("12: on a hole, all units drain", "99 0", () -> holed.pour(3, 3, 99) + " " + holed.water(3, 3));
        Check.due("12: beside a hole of the same height, none drain", "0 1", () -> holed.pour(3, 2, 1) + " " + holed.water(3, 2));
        holed.setHeight(3, 3, 49);
        Check.due("12: beside a lower hole, all units drain", "1 1", () -> holed.pour(3, 2, 1) + " " + holed.water(3, 2));
        Check.due("12: what drains, not what has drained", "2 102", () -> holed.pour(3, 3, 2) + " " + holed.drained());
    }

    private static void settleDry() {
        DustSheetMap map = new DustSheetMap();
        Check.due("13: a dry sheet", "0 0 0", () -> map.settle() + " " + map.standing() + " " + map.drained());
        Check.due("13: a change all the same", 1, () -> map.undoCount());
        DustSheetMap holed = withHole(3, 3);
        Check.due("13: a dry sheet with a hole", "0 0", () -> holed.settle() + " " + holed.drained());
    }

    private static void settleWet() {
        DustSheetMap all = new DustSheetMap();
        for (int cell = 0; cell < 36; cell++) {
            all.pour(cell / 6, cell % 6, 1 + cell);
        }
        String before = sheetOf(all);
        Check.due("13: water at its ends", 0, () -> all.settle());
        Check.same("13: water at its ends stays", before, sheetOf(all));
        for (int cell = 0; cell < 35; cell++) {
            all.setHeight(cell / 6, cell % 6, 99 - cell);
        }
        Check.due("13: water stays until it settles", 36, () -> all.water(5, 5));
        Check.due("13: none drains", 0, () -> all.settle());
        Check.due("13: all flows to the last cell", "666 666", () -> all.water(5, 5) + " " + all.standing());
        DustSheetMap back = new DustSheetMap();
        back.pour(5, 5, 7);
        back.pour(0, 5, 8);
        for (int cell = 1; cell < 36; cell++) {
            back.setHeight(cell / 6, cell % 6, 50 + cell);
        }
        Check.due("13: all flows to the first cell", "0 15 0 0", () -> back.settle() + " " + back.water(0, 0) + " "
                + back.water(5, 5) + " " + back.water(0, 5));
    }

    private static void settleIntoHoles() {
        DustSheetMap map = new DustSheetMap();
        map.pour(2, 2, 9);
        map.pour(2, 3, 4);
        map.pour(5, 5, 1);
        makeHole(map, 2, 2);
        Check.due("13: water on a new hole stands until it settles", "9 0", () -> map.water(2, 2) + " " + map.drained());
        Check.due("13: it drains", "9 9 0", () -> map.settle() + " " + map.drained() + " " + map.water(2, 2));
        Check.due("13: beside a hole of the same height it stands", "4 5", () -> map.water(2, 3) + " " + map.standing());
        map.setHeight(2, 2, 49);
        Check.due("13: beside a lower hole it drains", "4 13 1", () -> map.settle() + " " + map.drained() + " " + map.standing());
        Check.due("13: nothing is left to drain", "0 13", () -> map.settle() + " " + map.drained());
        Check.due("13: the sum", 14, () -> map.poured());
        DustSheetMap patched = new DustSheetMap();
        patched.pour(2, 2, 9);
        makeHole(patched, 2, 2);
        patched.patch(2, 2);
        Check.due("13: a patched hole drains nothing", "0 9", () -> patched.settle() + " " + patched.water(2, 2));
    }

    private static void water() {
        noSuchCells("14: no such cell", (row, column) -> new DustSheetMap().water(row, column));
        DustSheetMap map = new DustSheetMap();
        map.pour(0, 0, 1);
        map.pour(0, 5, 2);
        map.pour(5, 0, 3);
        map.pour(5, 5, 4);
        Check.due("14: the least and the greatest row and column", "1 2 3 4",
                () -> map.water(0, 0) + " " + map.water(0, 5) + " " + map.water(5, 0) + " " + map.water(5, 5));
        Check.due("14: a dry cell", 0, () -> map.water(0, 1));
        for (int i = 0; i < 50; i++) {
            map.pour(2, 2, 99);
        }
        Check.due("14: no limit for what stands", 4950, () -> map.water(2, 2));
    }

    private static void endIs(String what, DustSheetMap map, int from, int end) {
        Check.due("15: " + what, end / 10, () -> map.endRow(from / 10, from % 10));
        Check.due("16: " + what, end % 10, () -> map.endColumn(from / 10, from % 10));
    }

    private static void endsOfLevelCells() {
        noSuchCells("15: no such cell", (row, column) -> new DustSheetMap().endRow(row, column));
        noSuchCells("16: no such cell", (row, column) -> new DustSheetMap().endColumn(row, column));
        for (int height : new int[] {0, 50, 99}) {
            DustSheetMap flat = level(height);
            for (int cell : new int[] {0, 5, 50, 55, 23}) {
                endIs("neighbours of the same height draw no water", flat, cell, cell);
            }
        }
        DustSheetMap map = level(1);
        map.setHeight(2, 3, 0);
        endIs("the cell at a pit", map, 23, 23);
        endIs("one lower is enough", map, 13, 23);
        endIs("two cells off", map, 12, 12);
    }

    /** The ends of water on a cell inside whose neighbours have these heights, north, east, south, west. */
    private static void endOfMiddleIs(String what, int north, int east, int south, int west, int end) {
        DustSheetMap map = level(60);
        map.setHeight(2, 2, 50);
        map.setHeight(1, 2, north);
        map.setHeight(2, 3, east);
        map.setHeight(3, 2, south);
        map.setHeight(2, 1, west);
        endIs(what, map, 22, end);
    }

    private static void endsByDirection() {
        endOfMiddleIs("all equally low: north", 40, 40, 40, 40, 12);
        endOfMiddleIs("east ahead of south and west", 41, 40, 40, 40, 23);
        endOfMiddleIs("south ahead of west", 41, 41, 40, 40, 32);
        endOfMiddleIs("west if it is the lowest", 41, 41, 41, 40, 21);
        endOfMiddleIs("north ahead of west", 40, 41, 41, 40, 12);
        endOfMiddleIs("north ahead of south", 40, 41, 40, 41, 12);
        endOfMiddleIs("east ahead of west", 51, 40, 51, 40, 23);
        endOfMiddleIs("one lower among higher ones", 51, 51, 49, 51, 32);
        endOfMiddleIs("none lower", 51, 51, 51, 51, 22);
        endOfMiddleIs("all as high", 51, 51, 51, 55, 22);
        endOfMiddleIs("the lowest, not the first lower one", 49, 48, 47, 46, 21);
        endOfMiddleIs("the lowest, not the last lower one", 46, 47, 48, 49, 12);
        endOfMiddleIs("the least and the greatest height", 99, 99, 0, 99, 32);
    }

    private static void endsAtEdges() {
        DustSheetMap map = level(50);
        map.setHeight(1, 0, 0);
        endIs("a row does not go on in the next", map, 5, 5);
        endIs("a row does not go on in the next", map, 15, 15);
        endIs("south of the first cell", map, 0, 10);
        DustSheetMap end = level(50);
        end.setHeight(4, 5, 0);
        endIs("a row does not begin in the one before", end, 50, 50);
        endIs("north of the last cell", end, 55, 45);
        DustSheetMap sides = level(50);
        sides.setHeight(0, 2, 0);
        sides.setHeight(2, 0, 0);
        endIs("opposite sides are no neighbours", sides, 52, 52);
        endIs("opposite sides are no neighbours", sides, 25, 25);
    }

    private static void endsOfLongWays() {
        // Walls of 99 on each side leave one way, which falls by one at each of its 26 steps.
        DustSheetMap map = mapOf(
                "40 39 38 37 36 35 "
                + "99 99 99 99 99 34 "
                + "28 29 30 31 32 33 "
                + "27 99 99 99 99 99 "
                + "26 25 24 23 22 21 "
                + "99 99 99 99 99 20");
        endIs("the longest way", map, 0, 55);
        endIs("the longest way", map, 20, 55);
        Check.due("12: pour at the begin of the longest way", "0 3", () -> map.pour(0, 0, 3) + " " + map.water(5, 5));
        DustSheetMap up = mapOf(
                "20 21 22 23 24 25 "
                + "99 99 99 99 99 26 "
                + "32 31 30 29 28 27 "
                + "33 99 99 99 99 99 "
                + "34 35 36 37 38 39 "
                + "99 99 99 99 99 40");
        endIs("the longest way back", up, 55, 0);
    }

    private static void endsAtHoles() {
        DustSheetMap map = level(60);
        map.setHeight(2, 2, 50);
        map.setHeight(2, 3, 40);
        map.setHeight(2, 4, 30);
        endIs("over a cell without a hole", map, 22, 24);
        wearDown(map, 2, 3, 2);
        endIs("over a cell with wear 2", map, 22, 24);
        wearDown(map, 2, 3, 1);
        endIs("a hole on the way", map, 22, 23);
        endIs("the hole itself, though a neighbour is lower", map, 23, 23);
        map.setHeight(2, 3, 70);
        endIs("a higher hole draws no water", map, 22, 22);
        endIs("a hole on a hill is its own end", map, 23, 23);
        map.setHeight(2, 3, 50);
        endIs("a hole of the same height draws no water", map, 22, 22);
    }

    private static void basinIs(String what, DustSheetMap map, int cell, int size) {
        Check.due("18: " + what, size, () -> map.basinSize(cell / 10, cell % 10));
        Check.due("19: " + what, size, () -> map.basinSizeUpwards(cell / 10, cell % 10));
    }

    /** Each height falls to the first cell. */
    private static DustSheetMap slopeToFirst() {
        DustSheetMap map = new DustSheetMap();
        for (int cell = 0; cell < 36; cell++) {
            map.setHeight(cell / 6, cell % 6, 9 * (cell / 6 + cell % 6));
        }
        return map;
    }

    private static void basinsFewAndMany() {
        noSuchCells("18: no such cell", (row, column) -> new DustSheetMap().basinSize(row, column));
        noSuchCells("19: no such cell", (row, column) -> new DustSheetMap().basinSizeUpwards(row, column));
        DustSheetMap flat = new DustSheetMap();
        Check.due("17: as many basins as cells", 36, () -> flat.basins());
        basinIs("a basin of one cell", flat, 0, 1);
        basinIs("a basin of one cell", flat, 55, 1);
        DustSheetMap slope = slopeToFirst();
        Check.due("17: one basin", 1, () -> slope.basins());
        for (int cell : new int[] {0, 5, 50, 55, 33}) {
            basinIs("a basin of all cells", slope, cell, 36);
        }
        DustSheetMap pair = level(99);
        pair.setHeight(5, 5, 98);
        Check.due("17: a pit in the last corner", 34, () -> pair.basins());
        basinIs("a pit in the last corner", pair, 55, 3);
        basinIs("a neighbour of the pit", pair, 45, 3);
        basinIs("no neighbour of the pit", pair, 44, 1);
    }

    private static void basinsSplit() {
        DustSheetMap map = slopeToFirst();
        makeHole(map, 0, 1);
        // (1, 1) flows north into the hole, as all of the columns 1 to 5 do in the end.
        Check.due("17: a hole is an end of its own", 2, () -> map.basins());
        basinIs("what flows to the hole", map, 1, 30);
        basinIs("what flows to the hole", map, 55, 30);
        basinIs("what flows past the hole", map, 0, 6);
        basinIs("what flows past the hole", map, 50, 6);
        map.patch(0, 1);
        Check.due("17: a patched hole is no end", 1, () -> map.basins());
        DustSheetMap high = new DustSheetMap();
        high.setHeight(2, 2, 99);
        Check.due("17: a peak flows to a neighbour", 35, () -> high.basins());
        basinIs("a peak and its first neighbour", high, 12, 2);
        basinIs("its other neighbours", high, 23, 1);
        makeHole(high, 2, 2);
        Check.due("17: a hole on the peak", 36, () -> high.basins());
        basinIs("a hole on the peak", high, 22, 1);
    }

    private static void spillIs(String what, DustSheetMap map, int cell, int level) {
        Check.due("20: " + what, level, () -> map.spillLevel(cell / 10, cell % 10));
        Check.due("21: " + what, level, () -> map.spillLevelByRounds(cell / 10, cell % 10));
    }

    private static void spillCells() {
        noSuchCells("20: no such cell", (row, column) -> new DustSheetMap().spillLevel(row, column));
        noSuchCells("21: no such cell", (row, column) -> new DustSheetMap().spillLevelByRounds(row, column));
        for (int height : new int[] {0, 50, 99}) {
            for (int cell : new int[] {0, 5, 50, 55, 22}) {
                spillIs("a flat sheet", level(height), cell, height);
            }
        }
    }

    private static void spillAtBorder() {
        for (int i = 0; i < 6; i++) {
            for (int cell : new int[] {i, 50 + i, 10 * i, 10 * i + 5}) {
                DustSheetMap low = level(99);
                low.setHeight(cell / 10, cell % 10, 7);
                spillIs("a border cell spills at its own height", low, cell, 7);
                spillIs("beside the gap in the border", low, 22, 99);
            }
        }
        for (int cell : new int[] {11, 14, 41, 44, 12, 42, 21, 24}) {
            DustSheetMap pit = level(60);
            pit.setHeight(cell / 10, cell % 10, 7);
            spillIs("no cell beside the border is one of it", pit, cell, 60);
        }
        for (int gap : new int[] {3, 53, 30, 35}) {
            DustSheetMap map = level(99);
            for (int cell : new int[] {11, 12, 13, 14, 21, 24, 31, 34, 41, 42, 43, 44}) {
                map.setHeight(cell / 10, cell % 10, 20);
            }
            map.setHeight(2, 2, 0);
            map.setHeight(gap / 10, gap % 10, 31);
            spillIs("the only gap in the border", map, 44, 31);
            spillIs("the only gap in the border", map, 11, 31);
            spillIs("a pit behind the ring", map, 22, 31);
            spillIs("a peak behind the ring", map, 23, 99);
            map.setHeight(gap / 10, gap % 10, 3);
            spillIs("a gap that is lower than the cell", map, 11, 20);
            spillIs("a gap that is lower than the ring", map, 22, 20);
        }
    }

    private static void spillInside() {
        DustSheetMap peak = level(0);
        peak.setHeight(2, 3, 99);
        spillIs("no less than the height of the cell", peak, 23, 99);
        spillIs("beside a peak", peak, 22, 0);
        DustSheetMap pit = level(99);
        pit.setHeight(2, 3, 0);
        spillIs("the least height among the greatest", pit, 23, 99);
        DustSheetMap map = mapOf(
                "90 90 90 90 90 90 "
                + "90 10 70 90 90 90 "
                + "90 90 71 90 90 90 "
                + "90 90 10 72 10 73 "
                + "90 90 90 90 90 90 "
                + "90 90 90 90 90 90");
        spillIs("the greatest height of the way is at its end", map, 11, 73);
        map.setHeight(3, 5, 10);
        spillIs("the greatest height of the way is inside", map, 11, 72);
        spillIs("behind it", map, 34, 10);
        map.setHeight(1, 1, 80);
        spillIs("the greatest height of the way is the cell", map, 11, 80);
        map.setHeight(0, 1, 79);
        spillIs("a shorter way that is lower", map, 12, 72);
        map.setHeight(0, 1, 0);
        map.setHeight(1, 1, 71);
        spillIs("a shorter way that is lower", map, 12, 71);
    }

    private static void spillAtHoles() {
        DustSheetMap map = level(90);
        map.setHeight(2, 2, 10);
        map.setHeight(2, 3, 40);
        wearDown(map, 2, 3, 2);
        spillIs("wear 2 is no hole", map, 22, 90);
        wearDown(map, 2, 3, 1);
        spillIs("a hole spills at its own height", map, 23, 40);
        spillIs("beside a hole that is higher", map, 22, 40);
        map.setHeight(2, 2, 50);
        spillIs("beside a hole that is lower", map, 22, 50);
        spillIs("behind a wall", map, 24, 90);
        map.patch(2, 3);
        spillIs("a patched hole", map, 23, 90);
    }

    private static DustSheetMap pit() {
        DustSheetMap map = new DustSheetMap();
        map.setHeight(2, 2, 10);
        return map;
    }

    private static void spillFirstAndLater() {
        Check.due("20: the first call", 50, () -> pit().spillLevel(2, 2));
        Check.due("21: the first call", 50, () -> pit().spillLevelByRounds(2, 2));
        Check.due("22: the first call", 40, () -> pit().pondVolume());
        for (int cell : new int[] {0, 55, 33}) {
            Check.due("20: the first call", 50, () -> pit().spillLevel(cell / 10, cell % 10));
            Check.due("21: the first call", 50, () -> pit().spillLevelByRounds(cell / 10, cell % 10));
        }
        DustSheetMap map = pit();
        spillIs("ahead of a change", map, 22, 50);
        for (int cell : new int[] {12, 23, 32, 21}) {
            map.setHeight(cell / 10, cell % 10, 70);
        }
        spillIs("behind a rise", map, 22, 70);
        Check.due("22: behind a rise", 60, () -> map.pondVolume());
        map.setHeight(3, 2, 30);
        spillIs("behind a fall", map, 22, 50);
        Check.due("22: behind a fall", 40 + 20, () -> map.pondVolume());
    }

    private static void pondsEmptyAndFull() {
        for (int height : new int[] {0, 99}) {
            Check.due("22: a flat sheet", 0, () -> level(height).pondVolume());
        }
        DustSheetMap peaks = level(0);
        peaks.setHeight(2, 2, 99);
        Check.due("22: a peak holds nothing", 0, () -> peaks.pondVolume());
        DustSheetMap border = level(99);
        for (int cell : new int[] {0, 5, 30, 35, 3, 18, 23, 33}) {
            border.setHeight(cell / 6, cell % 6, 0);
        }
        Check.due("22: border cells hold nothing", 0, () -> border.pondVolume());
        DustSheetMap full = level(99);
        for (int row = 1; row < 5; row++) {
            for (int column = 1; column < 5; column++) {
                full.setHeight(row, column, 0);
            }
        }
        Check.due("22: the greatest pond", 16 * 99, () -> full.pondVolume());
        full.setHeight(0, 0, 0);
        Check.due("22: a corner does not let it out", 16 * 99, () -> full.pondVolume());
        full.setHeight(5, 4, 1);
        Check.due("22: all but the lowest unit runs out", 16, () -> full.pondVolume());
        full.setHeight(5, 4, 99);
        full.setHeight(3, 3, 98);
        makeHole(full, 3, 3);
        Check.due("22: over the edge of a hole", 15 * 98, () -> full.pondVolume());
        full.setHeight(3, 3, 0);
        Check.due("22: through a hole", 0, () -> full.pondVolume());
    }
}
