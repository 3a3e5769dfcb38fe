/** The boundary cases of promises 27 to 36: moths, nights, wear, holes and patches. */
public final class BoundaryMothsTest extends MapFixture {
    public static void main(String[] args) {
        addMothCells();
        addMothUpToFour();
        addMothDenied();
        addMothOrder();
        removeMothIndices();
        removeMothShifts();
        nightWithoutMoths();
        flightByDirection();
        flightByHeight();
        flightAtEdges();
        flightInOrder();
        mothsThatStay();
        nightsThatMakeHoles();
        patchWear();
        patchDenied();
        mothCounts();
        mothCells();
        wear();
        holes();
        nightsUntilHoleNow();
        nightsUntilHoleWithinThirty();
        nightsUntilHoleNever();
        Check.end();
    }

    private static DustSheetMap withMoths(int... cells) {
        DustSheetMap map = new DustSheetMap();
        for (int cell : cells) {
            map.addMoth(cell / 10, cell % 10);
        }
        return map;
    }

    private static void addMothCells() {
        noSuchCells("27: no such cell", (row, column) -> new DustSheetMap().addMoth(row, column));
        DustSheetMap map = new DustSheetMap();
        Check.due("27: the least row and column", "0 00 ", () -> map.addMoth(0, 0) + " " + mothsOf(map));
        Check.due("27: the least row, the greatest column", "1 00 05 ", () -> map.addMoth(0, 5) + " " + mothsOf(map));
        Check.due("27: the greatest row, the least column", "2 00 05 50 ", () -> map.addMoth(5, 0) + " " + mothsOf(map));
        Check.due("27: the greatest row and column", "3 00 05 50 55 ", () -> map.addMoth(5, 5) + " " + mothsOf(map));
    }

    private static void addMothUpToFour() {
        DustSheetMap map = withMoths(22, 23, 24);
        Check.due("27: the fourth moth", 3, () -> map.addMoth(2, 1));
        Check.due("27: denied, 4 moths", DENIED, () -> map.addMoth(4, 4));
        Check.same("27: denial 1, the detail is the limit", plain(1, 4), denialOf(map));
        Check.due("27: refused, 4 moths and no change", "4 4", () -> map.mothCount() + " " + map.undoCount());
        map.removeMoth(0);
        Check.due("27: a fourth moth again", 3, () -> map.addMoth(4, 4));
        Check.due("27: denied again", DENIED, () -> map.addMoth(5, 5));
    }

    private static void addMothDenied() {
        DustSheetMap map = new DustSheetMap();
        wearDown(map, 2, 2, 2);
        Check.due("27: wear 2 is no hole", 0, () -> map.addMoth(2, 2));
        map.removeMoth(0);
        wearDown(map, 2, 2, 1);
        Check.due("27: denied, a hole", DENIED, () -> map.addMoth(2, 2));
        Check.same("27: denial 3, the detail is the number of holes", plain(3, 1), denialOf(map));
        makeHole(map, 4, 4);
        Check.due("27: denied, a hole", DENIED, () -> map.addMoth(2, 2));
        Check.same("27: denial 3, the detail is the number of holes", plain(3, 2), denialOf(map));
        map.patch(2, 2);
        Check.due("27: a patched hole", 0, () -> map.addMoth(2, 2));
        DustSheetMap moths = withMoths(0, 11, 22);
        for (int moth = 0; moth < 3; moth++) {
            int cell = moth;
            Check.due("27: denied, a moth is on the cell", DENIED, () -> moths.addMoth(cell, cell));
            Check.same("27: denial 5, the detail is its index", plain(5, moth), denialOf(moths));
        }
        Check.due("27: refused, 3 moths", 3, () -> moths.mothCount());
    }

    /** A sheet with a single moth, which is on the hole in the first cell that it has worn. */
    private static DustSheetMap mothOnHole() {
        DustSheetMap map = withHole(0, 1);
        makeHole(map, 1, 0);
        map.addMoth(0, 0);
        for (int night = 0; night < 3; night++) {
            map.passNight();
        }
        return map;
    }

    private static void addMothOrder() {
        DustSheetMap map = mothOnHole();
        Check.due("27: a moth on a hole", "00 3 3", () -> mothsOf(map) + map.wear(0, 0) + " " + map.holes());
        Check.due("27: a hole and a moth", DENIED, () -> map.addMoth(0, 0));
        Check.same("27: denial 3 ahead of 5", plain(3, 3), denialOf(map));
        map.addMoth(5, 5);
        map.addMoth(5, 4);
        map.addMoth(5, 3);
        Check.due("27: 4 moths, a hole and a moth", DENIED, () -> map.addMoth(0, 0));
        Check.same("27: denial 1 ahead of 3 and 5", plain(1, 4), denialOf(map));
        Check.due("27: 4 moths and a hole", DENIED, () -> map.addMoth(0, 1));
        Check.same("27: denial 1 ahead of 3", plain(1, 4), denialOf(map));
        Check.due("27: 4 moths and a moth", DENIED, () -> map.addMoth(5, 4));
        Check.same("27: denial 1 ahead of 5", plain(1, 4), denialOf(map));
        Check.due("27: no such cell ahead of 4 moths", NO_INDEX, () -> map.addMoth(5, 6));
        Check.same("27: the denial stays", plain(1, 4), denialOf(map));
    }

    private static void removeMothIndices() {
        DustSheetMap none = new DustSheetMap();
        for (int moth : new int[] {-1, 0, 1, 3, 4, LEAST, MOST}) {
            Check.due("28: no moth, index " + moth, NO_INDEX, () -> none.removeMoth(moth));
        }
        DustSheetMap four = withMoths(22, 23, 24, 25);
        for (int moth : new int[] {-1, 4, 5, LEAST, MOST, 256, 65536}) {
            Check.due("28: four moths, index " + moth, NO_INDEX, () -> four.removeMoth(moth));
        }
        Check.due("28: refused, no change", "4 4", () -> four.mothCount() + " " + four.undoCount());
        Check.due("28: the greatest index", "3 22 23 24 ", () -> four.removeMoth(3) + " " + mothsOf(four));
        Check.due("28: the index is gone", NO_INDEX, () -> four.removeMoth(3));
        Check.due("28: the least index", "2 23 24 ", () -> four.removeMoth(0) + " " + mothsOf(four));
        Check.due("28: to none", "1 0", () -> four.removeMoth(1) + " " + four.removeMoth(0));
        Check.due("28: none is left", NO_INDEX, () -> four.removeMoth(0));
    }

    private static void removeMothShifts() {
        String[] left = {"23 24 25 ", "22 24 25 ", "22 23 25 ", "22 23 24 "};
        for (int moth = 0; moth < 4; moth++) {
            int index = moth;
            DustSheetMap map = withMoths(22, 23, 24, 25);
            Check.due("28: the indices of the later ones decrease by 1", "3 " + left[moth],
                    () -> map.removeMoth(index) + " " + mothsOf(map));
            Check.due("28: the next moth is the last", "3 " + left[index] + "00 ", () -> map.addMoth(0, 0) + " " + mothsOf(map));
        }
    }

    private static void nightWithoutMoths() {
        DustSheetMap map = new DustSheetMap();
        Check.due("29: no moth", "0 1 0", () -> map.passNight() + " " + map.nights() + " " + map.holes());
        DustSheetMap gone = withMoths(22);
        gone.removeMoth(0);
        Check.due("29: no moth any more", "0 0", () -> gone.passNight() + " " + gone.wear(1, 2));
        DustSheetMap holed = withHole(2, 2);
        Check.due("29: a hole from before does not count", "0 1", () -> holed.passNight() + " " + holed.holes());
    }

    /** Where a moth inside flies to if the neighbours have these heights, north, east, south, west. */
    private static void flightIs(String what, int north, int east, int south, int west, String end) {
        DustSheetMap map = new DustSheetMap();
        int[][] neighbours = {{1, 2, north}, {2, 3, east}, {3, 2, south}, {2, 1, west}};
        for (int[] next : neighbours) {
            if (next[2] != 50) {
                map.setHeight(next[0], next[1], next[2]);
            }
        }
        map.addMoth(2, 2);
        Check.due("29: " + what, "0 " + end + " 1", () -> map.passNight() + " " + mothsOf(map)
                + map.wear(map.mothRow(0), map.mothColumn(0)));
        Check.due("29: " + what + ", no wear where it was", 0, () -> map.wear(2, 2));
    }

    private static void flightByDirection() {
        flightIs("all equally high: north", 50, 50, 50, 50, "12");
        flightIs("east ahead of south and west", 40, 60, 60, 60, "23");
        flightIs("south ahead of west", 40, 40, 60, 60, "32");
        flightIs("north ahead of south", 60, 40, 60, 40, "12");
        flightIs("north ahead of west", 60, 40, 40, 60, "12");
        flightIs("east ahead of west", 40, 60, 40, 60, "23");
    }

    private static void flightByHeight() {
        flightIs("one higher", 50, 50, 50, 51, "21");
        flightIs("the greatest height, not the first higher one", 51, 52, 53, 54, "21");
        flightIs("the greatest height, not the last higher one", 54, 53, 52, 51, "12");
        flightIs("to a lower one if none is higher", 10, 10, 11, 10, "32");
        flightIs("to the least height if all have it", 0, 0, 0, 0, "12");
        flightIs("to the greatest height there is", 98, 98, 98, 99, "21");
    }

    private static void flightAtEdges() {
        String[][] corners = {{"0", "0 01 "}, {"5", "0 15 "}, {"50", "0 40 "}, {"55", "0 45 "}};
        for (String[] corner : corners) {
            int cell = Integer.parseInt(corner[0]);
            DustSheetMap map = withMoths(cell);
            Check.due("29: from a corner", corner[1], () -> map.passNight() + " " + mothsOf(map));
        }
        DustSheetMap end = withMoths(5);
        end.setHeight(1, 0, 99);
        end.setHeight(5, 5, 99);
        Check.due("29: a row does not go on in the next", "0 15 ", () -> end.passNight() + " " + mothsOf(end));
        DustSheetMap begin = withMoths(10);
        begin.setHeight(0, 5, 99);
        begin.setHeight(1, 5, 99);
        Check.due("29: a row does not begin in the one before", "0 00 ", () -> begin.passNight() + " " + mothsOf(begin));
    }

    private static void flightInOrder() {
        DustSheetMap first = withMoths(33, 32);
        first.setHeight(3, 3, 90);
        Check.due("29: moth 1 flies where moth 0 was", "0 23 33 ", () -> first.passNight() + " " + mothsOf(first));
        DustSheetMap second = withMoths(32, 33);
        second.setHeight(3, 3, 90);
        Check.due("29: moth 0 does not fly where moth 1 is", "0 22 23 ", () -> second.passNight() + " " + mothsOf(second));
        DustSheetMap same = withMoths(32, 34);
        same.setHeight(3, 3, 90);
        Check.due("29: moth 1 does not fly where moth 0 has come", "0 33 24 ", () -> same.passNight() + " " + mothsOf(same));
        DustSheetMap crowd = withMoths(0, 1, 10);
        Check.due("29: no neighbour without a moth: it stays", "0 00 02 11 ", () -> crowd.passNight() + " " + mothsOf(crowd));
        Check.due("29: the wear of the cell on which it stays", 1, () -> crowd.wear(0, 0));
        DustSheetMap later = withMoths(1, 10, 0);
        Check.due("29: the last moth flies where there is room", "0 02 11 01 ", () -> later.passNight() + " " + mothsOf(later));
        DustSheetMap four = withMoths(55, 54, 53, 52);
        Check.due("29: four moths", "0 45 55 54 53 ", () -> {
            four.setHeight(4, 4, 0);
            four.setHeight(4, 3, 0);
            four.setHeight(4, 2, 0);
            return four.passNight() + " " + mothsOf(four);
        });
    }

    private static void mothsThatStay() {
        DustSheetMap map = withHole(0, 1);
        makeHole(map, 1, 0);
        map.addMoth(0, 0);
        Check.due("29: all neighbours have holes: it stays", "0 00 1", () -> map.passNight() + " " + mothsOf(map) + map.wear(0, 0));
        Check.due("29: wear 2 is no hole", "0 2 2", () -> map.passNight() + " " + map.wear(0, 0) + " " + map.holes());
        Check.due("29: wear 3 is a hole", "1 3 3", () -> map.passNight() + " " + map.wear(0, 0) + " " + map.holes());
        Check.due("29: not above 3", "0 3 3", () -> map.passNight() + " " + map.wear(0, 0) + " " + map.holes());
        Check.due("29: not above 3", "0 3 00 ", () -> map.passNight() + " " + map.wear(0, 0) + " " + mothsOf(map));
        map.setHeight(1, 0, 99);
        map.patch(0, 1);
        Check.due("29: to the neighbour without a hole", "0 01 ", () -> map.passNight() + " " + mothsOf(map));
        Check.due("29: a moth leaves a hole and does not come back", "0 02 ", () -> map.passNight() + " " + mothsOf(map));
    }

    /** The first row is the highest one, and its first four cells get their holes from four moths at once. */
    private static DustSheetMap aheadOfFourHoles() {
        DustSheetMap map = new DustSheetMap();
        for (int column = 0; column < 4; column++) {
            wearDown(map, 0, column, 2);
        }
        for (int column = 0; column < 4; column++) {
            map.setHeight(0, column, 99);
            map.addMoth(1, column);
        }
        return map;
    }

    private static void nightsThatMakeHoles() {
        DustSheetMap map = aheadOfFourHoles();
        Check.due("29: no hole yet", 0, () -> map.holes());
        Check.due("29: four cells get a hole", "4 4 00 01 02 03 ", () -> map.passNight() + " " + map.holes() + " " + mothsOf(map));
        DustSheetMap some = aheadOfFourHoles();
        some.patch(0, 1);
        some.removeMoth(3);
        Check.due("29: two cells get a hole", "2 2", () -> some.passNight() + " " + some.holes());
    }

    private static void patchWear() {
        noSuchCells("30: no such cell", (row, column) -> new DustSheetMap().patch(row, column));
        for (int wear = 1; wear <= 3; wear++) {
            for (int cell : new int[] {0, 5, 50, 55}) {
                int before = wear;
                DustSheetMap map = new DustSheetMap();
                wearDown(map, cell / 10, cell % 10, wear);
                Check.due("30: the wear before", before, () -> map.patch(cell / 10, cell % 10));
                Check.due("30: the wear becomes 0", "0 0", () -> map.wear(cell / 10, cell % 10) + " " + map.holes());
            }
        }
    }

    private static void patchDenied() {
        DustSheetMap map = new DustSheetMap();
        Check.due("30: denied, no wear", DENIED, () -> map.patch(0, 0));
        Check.same("30: denial 4, no hole", plain(4, 0), denialOf(map));
        Check.due("30: refused, no change", 0, () -> map.undoCount());
        makeHole(map, 2, 2);
        makeHole(map, 4, 4);
        Check.due("30: denied, no wear", DENIED, () -> map.patch(0, 0));
        Check.same("30: denial 4, the detail is the number of holes", plain(4, 2), denialOf(map));
        Check.due("30: patched, then denied", "3", () -> map.patch(4, 4));
        Check.due("30: patched, then denied", DENIED, () -> map.patch(4, 4));
        Check.same("30: denial 4, the detail is the number of holes", plain(4, 1), denialOf(map));
        DustSheetMap moths = withMoths(0, 2, 40, 44);
        moths.passNight();
        int[] cells = {1, 3, 30, 34};
        for (int moth = 0; moth < 4; moth++) {
            int cell = cells[moth];
            Check.due("30: denied, a moth on a worn cell", DENIED, () -> moths.patch(cell / 10, cell % 10));
            Check.same("30: denial 5, the detail is its index", plain(5, moth), denialOf(moths));
            Check.due("30: refused, the wear stays", 1, () -> moths.wear(cell / 10, cell % 10));
        }
        DustSheetMap fresh = withMoths(22);
        Check.due("30: a moth and no wear", DENIED, () -> fresh.patch(2, 2));
        Check.same("30: denial 5 ahead of 4", plain(5, 0), denialOf(fresh));
        Check.due("30: no such cell ahead of a denial", NO_INDEX, () -> fresh.patch(6, 2));
        DustSheetMap hole = mothOnHole();
        Check.due("30: a moth on a hole", DENIED, () -> hole.patch(0, 0));
        Check.same("30: denial 5", plain(5, 0), denialOf(hole));
    }

    private static void mothCounts() {
        DustSheetMap map = new DustSheetMap();
        Check.due("31: no moth", 0, () -> map.mothCount());
        for (int moth = 0; moth < 4; moth++) {
            map.addMoth(moth, moth);
            Check.due("31: up to 4 moths", moth + 1, () -> map.mothCount());
        }
        Check.due("31: a fifth moth is denied", DENIED, () -> map.addMoth(5, 5));
        Check.due("31: still 4 moths", 4, () -> map.mothCount());
        map.removeMoth(0);
        Check.due("31: a moth less", 3, () -> map.mothCount());
    }

    private static void mothCells() {
        DustSheetMap none = new DustSheetMap();
        DustSheetMap four = withMoths(0, 5, 50, 55);
        for (int moth : new int[] {-1, 0, 1, 3, 4, LEAST, MOST}) {
            Check.due("32: no moth, index " + moth, NO_INDEX, () -> none.mothRow(moth));
            Check.due("33: no moth, index " + moth, NO_INDEX, () -> none.mothColumn(moth));
        }
        for (int moth : new int[] {-1, 4, 5, LEAST, MOST, 256, 65536}) {
            Check.due("32: four moths, index " + moth, NO_INDEX, () -> four.mothRow(moth));
            Check.due("33: four moths, index " + moth, NO_INDEX, () -> four.mothColumn(moth));
        }
        for (int moth = 0; moth < 4; moth++) {
            int index = moth;
            Check.due("32: the row of moth " + moth, moth / 2 * 5, () -> four.mothRow(index));
            Check.due("33: the column of moth " + moth, moth % 2 * 5, () -> four.mothColumn(index));
        }
        four.removeMoth(1);
        Check.due("32: the index of a moth that is gone", NO_INDEX, () -> four.mothRow(3));
        Check.due("33: the index of a moth that is gone", NO_INDEX, () -> four.mothColumn(3));
        Check.due("32, 33: the greatest index", "5 5", () -> four.mothRow(2) + " " + four.mothColumn(2));
    }

    private static void wear() {
        noSuchCells("34: no such cell", (row, column) -> new DustSheetMap().wear(row, column));
        for (int cell : new int[] {0, 5, 50, 55, 14}) {
            DustSheetMap map = new DustSheetMap();
            for (int wear = 0; wear <= 3; wear++) {
                int due = wear;
                Check.due("34: wear " + wear, due, () -> map.wear(cell / 10, cell % 10));
                Check.due("35: only wear 3 is a hole", due / 3, () -> map.holes());
                if (wear < 3) {
                    wearDown(map, cell / 10, cell % 10, 1);
                }
            }
        }
        Check.due("34: rows and columns are not exchanged", "3 0", () -> {
            DustSheetMap map = withHole(1, 4);
            return map.wear(1, 4) + " " + map.wear(4, 1);
        });
    }

    private static void holes() {
        Check.due("35: no hole", 0, () -> new DustSheetMap().holes());
        DustSheetMap map = new DustSheetMap();
        int[] cells = {0, 5, 50, 55, 22};
        for (int i = 0; i < cells.length; i++) {
            makeHole(map, cells[i] / 10, cells[i] % 10);
            Check.due("35: one hole more", i + 1, () -> map.holes());
        }
        for (int i = 0; i < cells.length; i++) {
            map.patch(cells[i] / 10, cells[i] % 10);
            Check.due("35: one hole less", cells.length - 1 - i, () -> map.holes());
        }
    }

    private static void nightsUntilHoleNow() {
        noSuchCells("36: no such cell", (row, column) -> new DustSheetMap().nightsUntilHole(row, column));
        DustSheetMap map = withHole(5, 5);
        Check.due("36: a hole now", 0, () -> map.nightsUntilHole(5, 5));
        map.patch(5, 5);
        Check.due("36: a patched hole without a moth", NO_ELEMENT, () -> map.nightsUntilHole(5, 5));
        DustSheetMap stay = withHole(0, 1);
        makeHole(stay, 1, 0);
        stay.addMoth(0, 0);
        for (int nights = 3; nights >= 0; nights--) {
            int left = nights;
            Check.due("36: " + nights + " nights", left, () -> stay.nightsUntilHole(0, 0));
            stay.passNight();
        }
        DustSheetMap four = aheadOfFourHoles();
        for (int column = 0; column < 4; column++) {
            int c = column;
            Check.due("36: all four moths fly", 1, () -> four.nightsUntilHole(0, c));
        }
    }

    private static void nightsUntilHoleWithinThirty() {
        // A moth that goes to and fro through a flat sheet from its first cell.
        DustSheetMap map = withMoths(0);
        String before = sheetOf(map);
        Check.due("36: the thirtieth night", 30, () -> map.nightsUntilHole(0, 4));
        Check.due("36: the thirty-first night", NO_ELEMENT, () -> map.nightsUntilHole(1, 4));
        Check.due("36: the thirty-fourth night", NO_ELEMENT, () -> map.nightsUntilHole(2, 4));
        Check.same("36: nothing changes", before, sheetOf(map));
        Check.due("36: no change", 1, () -> map.undoCount());
        map.passNight();
        Check.due("36: the twenty-ninth night", 29, () -> map.nightsUntilHole(0, 4));
        Check.due("36: the thirtieth night", 30, () -> map.nightsUntilHole(1, 4));
        for (int night = 1; night < 30; night++) {
            map.passNight();
        }
        Check.due("36: now", "0 3", () -> map.nightsUntilHole(0, 4) + " " + map.wear(0, 4));
        Check.due("36: the next night", "1 2", () -> map.nightsUntilHole(1, 4) + " " + map.wear(1, 4));
    }

    private static void nightsUntilHoleNever() {
        for (int cell : new int[] {0, 5, 50, 55, 22}) {
            Check.due("36: no moth, no hole", NO_ELEMENT, () -> new DustSheetMap().nightsUntilHole(cell / 10, cell % 10));
        }
        DustSheetMap worn = new DustSheetMap();
        wearDown(worn, 3, 3, 2);
        Check.due("36: wear alone makes no hole", NO_ELEMENT, () -> worn.nightsUntilHole(3, 3));
        DustSheetMap far = withMoths(0);
        Check.due("36: a moth that goes elsewhere", NO_ELEMENT, () -> far.nightsUntilHole(5, 0));
        Check.due("36: no such cell ahead of no hole", NO_INDEX, () -> far.nightsUntilHole(5, -1));
    }
}
