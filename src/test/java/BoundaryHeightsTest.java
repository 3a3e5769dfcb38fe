/** The boundary cases of promises 1 to 11: a new object, heights, pegs, draping, ranks and islands. */
public final class BoundaryHeightsTest extends MapFixture {
    public static void main(String[] args) {
        newSheet();
        newTextsAndPast();
        setHeightCells();
        setHeightRange();
        setHeightOrder();
        setHeightDenied();
        setHeightElsewhere();
        pegs();
        unpegs();
        drapeWithoutChange();
        drapeOfAll();
        drapeRoundsDown();
        drapeFromOldHeights();
        height();
        isPegged();
        ranks();
        ranksOfEqualHeights();
        levels();
        islandsEmptyAndFull();
        islandsAtEdges();
        islandsOfLaterCalls();
        Check.end();
    }

    private static void newSheet() {
        for (int cell = 0; cell < 36; cell++) {
            int row = cell / 6;
            int column = cell % 6;
            DustSheetMap map = new DustSheetMap();
            Check.due("1: a cell is initially 50 high", 50, () -> map.height(row, column));
            Check.due("1: a new sheet is dry", 0, () -> map.water(row, column));
            Check.due("1: a new sheet is without pegs", false, () -> map.isPegged(row, column));
            Check.due("1: the wear is initially 0", 0, () -> map.wear(row, column));
            Check.due("1: a new sheet is flat", 0f, () -> map.slope(row, column));
            Check.due("1: a cell of a flat sheet is its own end", row + " " + column,
                    () -> map.endRow(row, column) + " " + map.endColumn(row, column));
        }
        DustSheetMap map = new DustSheetMap();
        Check.due("1: without holes", 0, () -> map.holes());
        Check.due("1: without moths", 0, () -> map.mothCount());
        Check.due("1: without moths", NO_INDEX, () -> map.mothRow(0));
        Check.due("1: no night has passed", 0, () -> map.nights());
        Check.due("1: nothing poured", 0, () -> map.poured());
        Check.due("1: nothing stands", 0, () -> map.standing());
        Check.due("1: nothing drained", 0, () -> map.drained());
        Check.due("1: the mean height", 50.0, () -> map.meanHeight());
        Check.due("1: no pond", 0, () -> map.pondVolume());
    }

    private static void newTextsAndPast() {
        DustSheetMap map = new DustSheetMap();
        Check.due("1: the output line is empty", NO_INDEX, () -> map.lineCharacter(0));
        Check.due("1: no fault position was kept", NO_ELEMENT, () -> map.faultPosition());
        Check.due("1: nothing was denied", NO_ELEMENT, () -> map.denial());
        Check.due("1: nothing was denied", NO_ELEMENT, () -> map.denialDetail());
        Check.due("1: nothing was denied", NO_ELEMENT, () -> map.denialCause());
        Check.due("1: no change", 0, () -> map.undoCount());
        Check.due("1: nothing to undo", BAD_STATE, () -> map.undo());
        Check.due("1: no snapshot", BAD_STATE, () -> map.restoreSnapshot());
        Check.due("1: the text buffer is empty", 1, () -> map.feed('x'));
        DustSheetMap first = new DustSheetMap();
        DustSheetMap second = new DustSheetMap();
        first.setHeight(0, 0, 1);
        first.peg(0, 0);
        first.addMoth(0, 0);
        first.pour(3, 3, 1);
        first.passNight();
        first.saveSnapshot();
        Check.same("1: one object does not change another", sheetOf(new DustSheetMap()), sheetOf(second));
        Check.due("1: one object does not change another", BAD_STATE, () -> second.restoreSnapshot());
    }

    private static void setHeightCells() {
        noSuchCells("2: no such cell", (row, column) -> new DustSheetMap().setHeight(row, column, 1));
        for (int[] cell : new int[][] {{0, 0}, {0, 5}, {5, 0}, {5, 5}}) {
            DustSheetMap map = new DustSheetMap();
            Check.due("2: the least and the greatest row and column", 50, () -> map.setHeight(cell[0], cell[1], 3));
            Check.due("2: the least and the greatest row and column", 3, () -> map.height(cell[0], cell[1]));
            Check.due("2: no other cell", (35 * 50 + 3) / 36.0, () -> map.meanHeight());
        }
    }

    private static void setHeightRange() {
        DustSheetMap map = new DustSheetMap();
        Check.due("2: the least height", 50, () -> map.setHeight(2, 3, 0));
        Check.due("2: the least height", 0, () -> map.height(2, 3));
        Check.due("2: the greatest height, the least before", 0, () -> map.setHeight(2, 3, 99));
        Check.due("2: the greatest height", 99, () -> map.height(2, 3));
        Check.due("2: the greatest before", 99, () -> map.setHeight(2, 3, 50));
        for (int height : new int[] {-1, 100, LEAST, MOST, 256 + 7, 65536 + 7, -99}) {
            Check.due("2: height " + height, BAD_ARGUMENT, () -> map.setHeight(2, 3, height));
            Check.due("2: the height stays", 50, () -> map.height(2, 3));
        }
        Check.due("2: a height out of range is no denial", NO_ELEMENT, () -> map.denial());
    }

    private static void setHeightOrder() {
        DustSheetMap map = new DustSheetMap();
        Check.due("2: the row ahead of the height", NO_INDEX, () -> map.setHeight(6, 0, 100));
        Check.due("2: the row ahead of the height", NO_INDEX, () -> map.setHeight(-1, 0, -1));
        Check.due("2: the column ahead of the height", NO_INDEX, () -> map.setHeight(0, 6, 100));
        Check.due("2: the column ahead of the height", NO_INDEX, () -> map.setHeight(0, -1, -1));
        Check.due("2: the cell ahead of denial 6", NO_INDEX, () -> map.setHeight(6, 0, 50));
        Check.due("2: no denial", NO_ELEMENT, () -> map.denial());
    }

    private static void setHeightDenied() {
        for (int height : new int[] {0, 50, 99}) {
            DustSheetMap map = new DustSheetMap();
            if (height != 50) {
                map.setHeight(4, 1, height);
            }
            int changes = map.undoCount();
            Check.due("2: denied, the present height", DENIED, () -> map.setHeight(4, 1, height));
            Check.same("2: denial 6, the detail is the value", plain(6, height), denialOf(map));
            Check.due("2: a denied call is no change", changes, () -> map.undoCount());
        }
        DustSheetMap map = new DustSheetMap();
        map.setHeight(4, 1, 51);
        Check.due("2: the height before the present one is allowed", 51, () -> map.setHeight(4, 1, 50));
        Check.due("2: the height of a neighbour is allowed", 50, () -> {
            map.setHeight(4, 2, 20);
            return map.setHeight(4, 1, 20);
        });
    }

    private static void setHeightElsewhere() {
        DustSheetMap map = new DustSheetMap();
        map.peg(1, 1);
        Check.due("2: a pegged cell", "50 7 true", () -> map.setHeight(1, 1, 7) + " " + map.height(1, 1) + " " + map.isPegged(1, 1));
        map.pour(3, 3, 5);
        Check.due("2: water stays on a cell that rises", "50 5", () -> map.setHeight(3, 3, 99) + " " + map.water(3, 3));
        Check.due("2: water stays beside a cell that falls", "50 5", () -> map.setHeight(3, 4, 0) + " " + map.water(3, 3));
        Check.due("2: water stays on a cell that falls", "99 5", () -> map.setHeight(3, 3, 0) + " " + map.water(3, 3));
        DustSheetMap holed = withHole(2, 2);
        Check.due("2: a cell with a hole", "50 8 3", () -> holed.setHeight(2, 2, 8) + " " + holed.height(2, 2) + " " + holed.wear(2, 2));
        holed.addMoth(0, 0);
        Check.due("2: a cell with a moth", "50 00 ", () -> holed.setHeight(0, 0, 9) + " " + mothsOf(holed));
    }

    private static void pegs() {
        noSuchCells("3: no such cell", (row, column) -> new DustSheetMap().peg(row, column));
        DustSheetMap map = new DustSheetMap();
        for (int cell = 0; cell < 36; cell++) {
            int row = cell / 6;
            int column = cell % 6;
            int count = cell + 1;
            Check.due("3: the number of pegged cells", count, () -> map.peg(row, column));
            Check.due("3: it is pegged", DENIED, () -> map.peg(row, column));
            Check.same("3: denial 2, the detail is the number of pegged cells", plain(2, count), denialOf(map));
        }
        Check.due("3: refused, it stays pegged", true, () -> map.isPegged(5, 5));
        Check.due("3: refused, the number stays", 35, () -> map.unpeg(5, 5));
        DustSheetMap one = new DustSheetMap();
        one.peg(0, 0);
        Check.due("3: no such cell ahead of denial 2", NO_INDEX, () -> one.peg(-1, 6));
        Check.due("3: no denial", NO_ELEMENT, () -> one.denial());
        Check.due("3: it is pegged", DENIED, () -> one.peg(0, 0));
        Check.due("3: refused, no change", 1, () -> one.undoCount());
    }

    private static void unpegs() {
        noSuchCells("4: no such cell", (row, column) -> new DustSheetMap().unpeg(row, column));
        DustSheetMap map = new DustSheetMap();
        Check.due("4: no peg", DENIED, () -> map.unpeg(0, 0));
        Check.same("4: denial 2, no pegged cell", plain(2, 0), denialOf(map));
        Check.due("4: refused, no change", 0, () -> map.undoCount());
        map.peg(0, 0);
        map.peg(5, 5);
        Check.due("4: it is not pegged", DENIED, () -> map.unpeg(0, 5));
        Check.same("4: denial 2, the number of pegged cells", plain(2, 2), denialOf(map));
        Check.due("4: one is left", 1, () -> map.unpeg(5, 5));
        Check.due("4: none is left", 0, () -> map.unpeg(0, 0));
        Check.due("4: it is not pegged any more", DENIED, () -> map.unpeg(0, 0));
        Check.same("4: denial 2, no pegged cell", plain(2, 0), denialOf(map));
        Check.due("4: a cell can be pegged again", 1, () -> map.peg(0, 0));
        DustSheetMap full = allPegged(new DustSheetMap());
        for (int cell = 35; cell >= 0; cell--) {
            int row = cell / 6;
            int column = cell % 6;
            Check.due("4: from all to none", cell, () -> full.unpeg(row, column));
        }
    }

    private static DustSheetMap allPegged(DustSheetMap map) {
        for (int cell = 0; cell < 36; cell++) {
            map.peg(cell / 6, cell % 6);
        }
        return map;
    }

    /** Heights 0 and 99 in turn, as the fields of a chessboard. */
    private static DustSheetMap chessboard() {
        DustSheetMap map = new DustSheetMap();
        for (int cell = 0; cell < 36; cell++) {
            map.setHeight(cell / 6, cell % 6, (cell / 6 + cell % 6) % 2 == 0 ? 0 : 99);
        }
        return map;
    }

    private static void drapeWithoutChange() {
        for (int height : new int[] {0, 50, 99}) {
            DustSheetMap flat = level(height);
            Check.due("5: no height of a flat sheet changes", "0 " + (double) height, () -> flat.drape() + " " + flat.meanHeight());
        }
        DustSheetMap pegged = allPegged(chessboard());
        String before = sheetOf(pegged);
        Check.due("5: no height of a pegged sheet changes", 0, () -> pegged.drape());
        Check.same("5: no height of a pegged sheet changes", before, sheetOf(pegged));
        DustSheetMap one = allPegged(chessboard());
        one.unpeg(2, 2);
        Check.due("5: a single cell without a peg, 0 among 99", "1 66", () -> one.drape() + " " + one.height(2, 2));
        DustSheetMap count = new DustSheetMap();
        Check.due("5: draping that changes no height is a change", "0 1", () -> count.drape() + " " + count.undoCount());
    }

    private static void drapeOfAll() {
        DustSheetMap map = chessboard();
        map.pour(0, 0, 9);
        Check.due("5: all heights change", 36, () -> map.drape());
        Check.due("5: a corner has 2 neighbours", 2 * 99 / 4, () -> map.height(0, 0));
        Check.due("5: a border cell has 3 neighbours", 2 * 99 / 5, () -> map.height(0, 1));
        Check.due("5: a border cell has 3 neighbours", 3 * 99 / 5, () -> map.height(0, 2));
        Check.due("5: an inner cell has 4 neighbours", 4 * 99 / 6, () -> map.height(1, 1));
        Check.due("5: an inner cell has 4 neighbours", 2 * 99 / 6, () -> map.height(1, 2));
        Check.due("5: the last corner", 2 * 99 / 4, () -> map.height(5, 5));
        Check.due("5: the other corners", 2 * 99 / 4, () -> map.height(5, 0));
        Check.due("5: water stays where it is", "9 0", () -> map.water(0, 0) + " " + map.drained());
    }

    private static DustSheetMap drapedBeside(int row, int column, int besideRow, int besideColumn, int height) {
        DustSheetMap map = new DustSheetMap();
        map.setHeight(besideRow, besideColumn, height);
        map.drape();
        return map;
    }

    private static void drapeRoundsDown() {
        Check.due("5: corner, 203 / 4", 50, () -> drapedBeside(0, 0, 0, 1, 53).height(0, 0));
        Check.due("5: corner, 204 / 4", 51, () -> drapedBeside(0, 0, 0, 1, 54).height(0, 0));
        Check.due("5: corner, 199 / 4", 49, () -> drapedBeside(0, 0, 0, 1, 49).height(0, 0));
        Check.due("5: border, 254 / 5", 50, () -> drapedBeside(0, 2, 0, 1, 54).height(0, 2));
        Check.due("5: border, 255 / 5", 51, () -> drapedBeside(0, 2, 0, 1, 55).height(0, 2));
        Check.due("5: border, 249 / 5", 49, () -> drapedBeside(3, 5, 2, 5, 49).height(3, 5));
        Check.due("5: inside, 305 / 6", 50, () -> drapedBeside(2, 2, 2, 1, 55).height(2, 2));
        Check.due("5: inside, 306 / 6", 51, () -> drapedBeside(2, 2, 3, 2, 56).height(2, 2));
        Check.due("5: inside, 299 / 6", 49, () -> drapedBeside(2, 2, 1, 2, 49).height(2, 2));
        DustSheetMap map = new DustSheetMap();
        map.setHeight(2, 2, 52);
        Check.due("5: a height that rounds to itself does not change", "1 50", () -> map.drape() + " " + map.height(2, 1));
    }

    private static void drapeFromOldHeights() {
        DustSheetMap map = level(0);
        map.setHeight(0, 0, 99);
        Check.due("5: from the old heights", 3, () -> map.drape());
        Check.due("5: from the old heights", "49 19 0 0 0 0", () -> rowOf(map, 0));
        Check.due("5: from the old heights", "19 0 0 0 0 0", () -> rowOf(map, 1));
        DustSheetMap last = level(0);
        last.setHeight(5, 5, 99);
        Check.due("5: from the old heights", 3, () -> last.drape());
        Check.due("5: from the old heights", "0 0 0 0 19 49", () -> rowOf(last, 5));
        Check.due("5: a row does not go on in the next", "0 0 0 0 0 19", () -> rowOf(last, 4));
    }

    private static void height() {
        noSuchCells("6: no such cell", (row, column) -> new DustSheetMap().height(row, column));
        DustSheetMap map = new DustSheetMap();
        map.setHeight(0, 0, 1);
        map.setHeight(0, 5, 2);
        map.setHeight(5, 0, 3);
        map.setHeight(5, 5, 4);
        Check.due("6: the least and the greatest row and column", "1 2 3 4",
                () -> map.height(0, 0) + " " + map.height(0, 5) + " " + map.height(5, 0) + " " + map.height(5, 5));
        Check.due("6: rows and columns are not exchanged", "9 50", () -> {
            map.setHeight(1, 4, 9);
            return map.height(1, 4) + " " + map.height(4, 1);
        });
    }

    private static void isPegged() {
        noSuchCells("7: no such cell", (row, column) -> new DustSheetMap().isPegged(row, column));
        DustSheetMap map = new DustSheetMap();
        map.peg(0, 5);
        map.peg(5, 0);
        Check.due("7: the least and the greatest row and column", "false true true false",
                () -> map.isPegged(0, 0) + " " + map.isPegged(0, 5) + " " + map.isPegged(5, 0) + " " + map.isPegged(5, 5));
        Check.due("7: rows and columns are not exchanged", "true false", () -> {
            map.peg(1, 4);
            return map.isPegged(1, 4) + " " + map.isPegged(4, 1);
        });
    }

    private static String rank(DustSheetMap map, int rank) {
        return map.rowByHeight(rank) + " " + map.columnByHeight(rank);
    }

    private static void ranks() {
        DustSheetMap map = new DustSheetMap();
        map.setHeight(3, 4, 99);
        map.setHeight(1, 2, 0);
        Check.due("8, 9: the least rank", "3 4", () -> rank(map, 0));
        Check.due("8, 9: the greatest rank", "1 2", () -> rank(map, 35));
        Check.due("8, 9: the second rank", "0 0", () -> rank(map, 1));
        Check.due("8, 9: the last but one", "5 5", () -> rank(map, 34));
        for (int rank : new int[] {-1, 36, LEAST, MOST, 256, 65536}) {
            Check.due("8: rank " + rank, NO_ELEMENT, () -> map.rowByHeight(rank));
            Check.due("9: rank " + rank, NO_ELEMENT, () -> map.columnByHeight(rank));
        }
        Check.due("8: the first call is right", 3, () -> {
            DustSheetMap fresh = new DustSheetMap();
            fresh.setHeight(3, 4, 51);
            return fresh.rowByHeight(0);
        });
        Check.due("9: the first call is right", 4, () -> {
            DustSheetMap fresh = new DustSheetMap();
            fresh.setHeight(3, 4, 51);
            return fresh.columnByHeight(0);
        });
    }

    private static void ranksOfEqualHeights() {
        DustSheetMap flat = new DustSheetMap();
        for (int rank = 0; rank < 36; rank++) {
            int r = rank;
            Check.due("8, 9: all heights are equal", rank / 6 + " " + rank % 6, () -> rank(flat, r));
        }
        DustSheetMap map = new DustSheetMap();
        map.setHeight(2, 0, 60);
        map.setHeight(1, 5, 60);
        map.setHeight(1, 4, 60);
        Check.due("8, 9: the lower column first", "1 4", () -> rank(map, 0));
        Check.due("8, 9: then the greater column", "1 5", () -> rank(map, 1));
        Check.due("8, 9: the lower row ahead of the lower column", "2 0", () -> rank(map, 2));
        Check.due("8, 9: then the lower heights", "0 0", () -> rank(map, 3));
        DustSheetMap rising = new DustSheetMap();
        for (int cell = 0; cell < 36; cell++) {
            if (cell != 18) {
                rising.setHeight(cell / 6, cell % 6, 32 + cell);
            }
        }
        for (int rank = 0; rank < 36; rank++) {
            int r = rank;
            Check.due("8, 9: in descending order", (35 - rank) / 6 + " " + (35 - rank) % 6, () -> rank(rising, r));
        }
    }

    private static void islandsAre(String what, DustSheetMap map, int level, Object want) {
        Check.due("10: " + what + ", level " + level, want, () -> map.islands(level));
        Check.due("11: " + what + ", level " + level, want, () -> map.islandsByUnions(level));
    }

    private static void levels() {
        for (int level : new int[] {-1, 100, LEAST, MOST, 256, 65536}) {
            islandsAre("out of range", new DustSheetMap(), level, BAD_ARGUMENT);
        }
        islandsAre("the least level", level(0), 0, 1);
        islandsAre("the greatest level", level(99), 99, 1);
        islandsAre("above all", level(98), 99, 0);
        islandsAre("above all", level(0), 1, 0);
        islandsAre("at least this height", new DustSheetMap(), 50, 1);
        islandsAre("just above", new DustSheetMap(), 51, 0);
        islandsAre("just below", new DustSheetMap(), 49, 1);
    }

    private static void islandsEmptyAndFull() {
        DustSheetMap map = chessboard();
        islandsAre("all in one", map, 0, 1);
        islandsAre("each cell by itself", map, 1, 18);
        islandsAre("each cell by itself", map, 99, 18);
        DustSheetMap cell = level(0);
        cell.setHeight(5, 5, 1);
        islandsAre("one cell", cell, 1, 1);
        islandsAre("none", cell, 2, 0);
        DustSheetMap first = level(0);
        first.setHeight(0, 0, 1);
        islandsAre("the first cell alone", first, 1, 1);
        DustSheetMap ring = level(99);
        ring.setHeight(2, 2, 0);
        islandsAre("a ring", ring, 99, 1);
        DustSheetMap spiral = mapOf(
                "9 9 9 9 9 9 "
                + "0 0 0 0 0 9 "
                + "9 9 9 9 0 9 "
                + "9 0 0 9 0 9 "
                + "9 0 0 0 0 9 "
                + "9 9 9 9 9 9");
        islandsAre("a spiral", spiral, 9, 1);
        DustSheetMap comb = mapOf(
                "9 0 9 0 9 0 "
                + "9 0 9 0 9 0 "
                + "9 0 9 0 9 0 "
                + "9 0 9 0 9 0 "
                + "9 0 9 0 9 0 "
                + "8 8 8 8 8 8");
        islandsAre("the teeth of a comb", comb, 9, 3);
        islandsAre("a comb", comb, 8, 1);
    }

    private static void islandsAtEdges() {
        DustSheetMap map = new DustSheetMap();
        map.setHeight(0, 5, 60);
        map.setHeight(1, 0, 60);
        islandsAre("a row does not go on in the next", map, 60, 2);
        DustSheetMap sides = new DustSheetMap();
        sides.setHeight(0, 2, 60);
        sides.setHeight(5, 2, 60);
        sides.setHeight(3, 0, 60);
        sides.setHeight(3, 5, 60);
        islandsAre("opposite sides do not touch", sides, 60, 4);
        DustSheetMap corners = new DustSheetMap();
        corners.setHeight(2, 2, 60);
        corners.setHeight(3, 3, 60);
        islandsAre("corners do not connect", corners, 60, 2);
        corners.setHeight(2, 3, 60);
        islandsAre("neighbours connect", corners, 60, 1);
        DustSheetMap holed = withHole(2, 2);
        islandsAre("a hole does not matter", holed, 50, 1);
    }

    private static void islandsOfLaterCalls() {
        DustSheetMap map = new DustSheetMap();
        map.setHeight(0, 0, 40);
        map.setHeight(0, 1, 60);
        map.setHeight(1, 0, 60);
        islandsAre("all cells, then fewer", map, 40, 1);
        islandsAre("the first cell keeps them apart", map, 60, 2);
        islandsAre("none", map, 61, 0);
        map.setHeight(0, 0, 60);
        islandsAre("the first cell connects them", map, 60, 1);
        map.setHeight(0, 0, 40);
        islandsAre("it keeps them apart again", map, 60, 2);
    }
}
