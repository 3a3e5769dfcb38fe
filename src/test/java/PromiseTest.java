import java.util.function.Consumer;

/** The promises of the document, one after the other: ordinary inputs, edges and wrong inputs. */
public final class PromiseTest extends MapFixture {
    public static void main(String[] args) {
        newObject();
        heights();
        pegs();
        draping();
        ranks();
        islands();
        pouring();
        settling();
        ends();
        basins();
        spillLevels();
        ponds();
        routes();
        routesRoundHoles();
        moths();
        nightFlights();
        patches();
        nightsUntilHole();
        accounts();
        slopes();
        feeding();
        executing();
        textsThatFail();
        faultPositions();
        rows();
        denials();
        undoing();
        undoOfEachChange();
        snapshots();
        Check.end();
    }

    private static void newObject() {
        DustSheetMap map = new DustSheetMap();
        for (int row = 0; row < 6; row++) {
            int r = row;
            Check.due("1: row of a new sheet", "50 50 50 50 50 50", () -> rowOf(map, r));
            for (int column = 0; column < 6; column++) {
                int c = column;
                Check.due("1: water", 0, () -> map.water(r, c));
                Check.due("1: wear", 0, () -> map.wear(r, c));
                Check.due("1: height", 50, () -> map.height(r, c));
                Check.due("1: isPegged", false, () -> map.isPegged(r, c));
            }
        }
        Check.due("1: moths", 0, () -> map.mothCount());
        Check.due("1: holes", 0, () -> map.holes());
        Check.due("1: nights", 0, () -> map.nights());
        Check.due("1: poured", 0, () -> map.poured());
        Check.due("1: undoCount", 0, () -> map.undoCount());
        Check.due("1: denial", NO_ELEMENT, () -> map.denial());
        Check.due("1: restoreSnapshot", BAD_STATE, () -> map.restoreSnapshot());
        Check.due("1: two objects share nothing", "1 0", () -> {
            DustSheetMap other = new DustSheetMap();
            other.peg(0, 0);
            return other.undoCount() + " " + map.undoCount();
        });
    }

    private static void heights() {
        DustSheetMap map = new DustSheetMap();
        Check.due("2: setHeight", 50, () -> map.setHeight(0, 0, 0));
        Check.due("6: height", 0, () -> map.height(0, 0));
        Check.due("2: height before", 0, () -> map.setHeight(0, 0, 99));
        Check.due("6: height", 99, () -> map.height(0, 0));
        Check.due("2: the present height", DENIED, () -> map.setHeight(0, 0, 99));
        Check.due("2: denial", "6 99", () -> map.denial() + " " + map.denialDetail());
        Check.due("2: below 0", BAD_ARGUMENT, () -> map.setHeight(5, 5, -1));
        Check.due("2: above 99", BAD_ARGUMENT, () -> map.setHeight(5, 5, 100));
        Check.due("2: least", BAD_ARGUMENT, () -> map.setHeight(5, 5, LEAST));
        Check.due("2: the cell is looked at first", NO_INDEX, () -> map.setHeight(5, 6, 100));
        noSuchCells("2: setHeight", (row, column) -> map.setHeight(row, column, 1));
        noSuchCells("6: height", (row, column) -> map.height(row, column));
        Check.due("6: height", 50, () -> map.height(5, 5));
        Check.due("2: a peg does not hinder", "1 50 7", () -> map.peg(3, 4) + " " + map.setHeight(3, 4, 7) + " " + map.height(3, 4));
        Check.due("2: water stays", "0 5 5", () -> {
            int drained = map.pour(3, 4, 5);
            map.setHeight(3, 4, 80);
            return drained + " " + map.water(3, 4) + " " + map.standing();
        });
    }

    private static void pegs() {
        DustSheetMap map = new DustSheetMap();
        Check.due("3: peg", 1, () -> map.peg(0, 5));
        Check.due("3: peg", 2, () -> map.peg(5, 0));
        Check.due("3: pegged already", DENIED, () -> map.peg(0, 5));
        Check.due("3: denial", "2 2", () -> map.denial() + " " + map.denialDetail());
        Check.due("7: isPegged", true, () -> map.isPegged(0, 5));
        Check.due("7: isPegged", false, () -> map.isPegged(5, 5));
        Check.due("4: unpeg", 1, () -> map.unpeg(0, 5));
        Check.due("7: isPegged", false, () -> map.isPegged(0, 5));
        Check.due("4: not pegged", DENIED, () -> map.unpeg(0, 5));
        Check.due("4: denial", "2 1", () -> map.denial() + " " + map.denialDetail());
        Check.due("4: unpeg", 0, () -> map.unpeg(5, 0));
        Check.due("3: the first and the last cell", "1 2 1 0", () -> map.peg(0, 0) + " " + map.peg(5, 5) + " "
                + map.unpeg(5, 5) + " " + map.unpeg(0, 0));
        noSuchCells("3: peg", (row, column) -> map.peg(row, column));
        noSuchCells("4: unpeg", (row, column) -> map.unpeg(row, column));
        noSuchCells("7: isPegged", (row, column) -> map.isPegged(row, column));
    }

    private static void draping() {
        DustSheetMap flat = new DustSheetMap();
        Check.due("5: a flat sheet", 0, () -> flat.drape());
        DustSheetMap map = new DustSheetMap();
        map.setHeight(0, 0, 99);
        map.setHeight(2, 3, 20);
        map.peg(3, 3);
        map.pour(2, 3, 4);
        // Corner: (198 + 100) / 4 = 74. Its neighbours: (100 + 99 + 100) / 5 = 59.
        // Inside: (40 + 200) / 6 = 40. Its neighbours: (100 + 20 + 150) / 6 = 45, but the pegged one.
        Check.due("5: drape", 7, () -> map.drape());
        Check.due("5: row 0", "74 59 50 50 50 50", () -> rowOf(map, 0));
        Check.due("5: row 1", "59 50 50 45 50 50", () -> rowOf(map, 1));
        Check.due("5: row 2", "50 50 45 40~ 45 50", () -> rowOf(map, 2));
        Check.due("5: row 3", "50 50 50 50^ 50 50", () -> rowOf(map, 3));
        Check.due("5: water stays", 4, () -> map.water(2, 3));
    }

    private static void ranks() {
        DustSheetMap map = new DustSheetMap();
        for (int rank = 0; rank < 36; rank++) {
            int r = rank;
            Check.due("8: equal heights", rank / 6, () -> map.rowByHeight(r));
            Check.due("9: equal heights", rank % 6, () -> map.columnByHeight(r));
        }
        map.setHeight(5, 4, 99);
        map.setHeight(1, 2, 60);
        map.setHeight(4, 0, 60);
        map.setHeight(0, 0, 0);
        Check.due("8, 9: first", "54", () -> "" + map.rowByHeight(0) + map.columnByHeight(0));
        Check.due("8, 9: second", "12", () -> "" + map.rowByHeight(1) + map.columnByHeight(1));
        Check.due("8, 9: third", "40", () -> "" + map.rowByHeight(2) + map.columnByHeight(2));
        Check.due("8, 9: fourth", "01", () -> "" + map.rowByHeight(3) + map.columnByHeight(3));
        Check.due("8, 9: last", "00", () -> "" + map.rowByHeight(35) + map.columnByHeight(35));
        for (int rank : new int[] {-1, 36, LEAST, MOST}) {
            Check.due("8: rank " + rank, NO_ELEMENT, () -> map.rowByHeight(rank));
            Check.due("9: rank " + rank, NO_ELEMENT, () -> map.columnByHeight(rank));
        }
    }

    private static void islandsAre(DustSheetMap map, int level, Object want) {
        Check.due("10: islands(" + level + ")", want, () -> map.islands(level));
        Check.due("11: islandsByUnions(" + level + ")", want, () -> map.islandsByUnions(level));
    }

    private static void islands() {
        DustSheetMap map = mapOf(
                "70 70 10 10 10 80 "
                + "10 70 10 60 10 80 "
                + "70 10 10 60 10 10 "
                + "70 70 70 60 10 30 "
                + "10 10 10 10 30 30 "
                + "99 10 10 10 30 00");
        islandsAre(map, 0, 1);
        islandsAre(map, 1, 1);
        islandsAre(map, 30, 5);
        islandsAre(map, 31, 4);
        islandsAre(map, 61, 4);
        islandsAre(map, 70, 4);
        islandsAre(map, 71, 2);
        islandsAre(map, 81, 1);
        islandsAre(map, 99, 1);
        islandsAre(new DustSheetMap(), 51, 0);
        islandsAre(new DustSheetMap(), 50, 1);
        for (int level : new int[] {-1, 100, LEAST, MOST}) {
            islandsAre(map, level, BAD_ARGUMENT);
        }
        DustSheetMap holed = withHole(2, 2);
        islandsAre(holed, 50, 1);
        DustSheetMap corner = new DustSheetMap();
        corner.setHeight(0, 0, 10);
        corner.setHeight(0, 1, 60);
        corner.setHeight(1, 0, 60);
        islandsAre(corner, 10, 1);
        islandsAre(corner, 60, 2);
        corner.setHeight(0, 0, 99);
        islandsAre(corner, 99, 1);
        corner.setHeight(5, 5, 99);
        islandsAre(corner, 99, 2);
    }

    private static void pouring() {
        DustSheetMap map = new DustSheetMap();
        map.setHeight(2, 2, 20);
        map.setHeight(2, 3, 30);
        Check.due("12: pour on a slope", 0, () -> map.pour(2, 4, 99));
        Check.due("14: water at the pit", 99, () -> map.water(2, 2));
        Check.due("14: water on the slope", 0, () -> map.water(2, 4));
        Check.due("12: no units", BAD_ARGUMENT, () -> map.pour(0, 0, 0));
        Check.due("12: too many units", BAD_ARGUMENT, () -> map.pour(0, 0, 100));
        Check.due("12: least units", BAD_ARGUMENT, () -> map.pour(0, 0, LEAST));
        Check.due("12: the cell is looked at first", NO_INDEX, () -> map.pour(0, 6, 0));
        noSuchCells("12: pour", (row, column) -> map.pour(row, column, 1));
        noSuchCells("14: water", (row, column) -> map.water(row, column));
        Check.due("12: pour one", "0 1", () -> map.pour(0, 0, 1) + " " + map.water(0, 0));
        Check.due("38: poured", 100, () -> map.poured());
        DustSheetMap holed = withHole(2, 2);
        Check.due("12: pour into a hole", 7, () -> holed.pour(2, 2, 7));
        Check.due("12: a hole on the level does not draw water", 0, () -> holed.pour(2, 3, 5));
        Check.due("12: pour", "9 9", () -> {
            holed.setHeight(2, 2, 40);
            return holed.pour(3, 2, 9) + " " + (holed.drained() - 7);
        });
        Check.due("12: only the water that is poured flows on", "6 5", () -> holed.pour(2, 3, 6) + " " + holed.water(2, 3));
    }

    private static void settling() {
        DustSheetMap map = new DustSheetMap();
        Check.due("13: a dry sheet", 0, () -> map.settle());
        map.pour(3, 3, 8);
        map.pour(3, 4, 5);
        Check.due("13: at their ends", "0 8 5", () -> map.settle() + " " + map.water(3, 3) + " " + map.water(3, 4));
        map.setHeight(4, 3, 10);
        map.setHeight(5, 3, 5);
        Check.due("13: water stays until it settles", 8, () -> map.water(3, 3));
        Check.due("13: settle", "0 0 5 0 8", () -> map.settle() + " " + map.water(3, 3) + " " + map.water(3, 4)
                + " " + map.water(4, 3) + " " + map.water(5, 3));
        DustSheetMap edge = new DustSheetMap();
        edge.pour(0, 0, 6);
        Check.due("39: standing on the first cell", 6, () -> edge.standing());
        edge.setHeight(0, 1, 49);
        Check.due("13: from the first cell", "0 0 6", () -> edge.settle() + " " + edge.water(0, 0) + " " + edge.water(0, 1));
        edge.pour(5, 5, 2);
        edge.setHeight(5, 4, 49);
        Check.due("13: from the last cell", "0 0 2", () -> edge.settle() + " " + edge.water(5, 5) + " " + edge.water(5, 4));
        DustSheetMap holed = new DustSheetMap();
        holed.pour(2, 2, 9);
        holed.pour(1, 1, 4);
        makeHole(holed, 2, 2);
        Check.due("13: water over a new hole stands", "9 0", () -> holed.water(2, 2) + " " + holed.drained());
        Check.due("13: settle drains it", "9 0 4 9 4", () -> holed.settle() + " " + holed.water(2, 2) + " "
                + holed.water(1, 1) + " " + holed.drained() + " " + holed.standing());
    }

    private static void endIs(DustSheetMap map, int row, int column, String want) {
        Check.due("15, 16: end of " + row + ", " + column, want, () -> "" + map.endRow(row, column) + map.endColumn(row, column));
    }

    private static void ends() {
        DustSheetMap flat = new DustSheetMap();
        endIs(flat, 3, 2, "32");
        DustSheetMap map = new DustSheetMap();
        map.setHeight(2, 2, 60);
        map.setHeight(1, 2, 40);
        map.setHeight(2, 3, 40);
        map.setHeight(3, 2, 40);
        map.setHeight(2, 1, 40);
        endIs(map, 2, 2, "12");
        map.setHeight(1, 2, 45);
        endIs(map, 2, 2, "23");
        map.setHeight(2, 3, 45);
        endIs(map, 2, 2, "32");
        map.setHeight(3, 2, 45);
        endIs(map, 2, 2, "21");
        map.setHeight(2, 0, 30);
        endIs(map, 2, 2, "20");
        map.setHeight(1, 0, 29);
        endIs(map, 2, 2, "10");
        makeHole(map, 2, 1);
        endIs(map, 2, 2, "21");
        endIs(map, 2, 1, "21");
        noSuchCells("15: endRow", (row, column) -> map.endRow(row, column));
        noSuchCells("16: endColumn", (row, column) -> map.endColumn(row, column));
    }

    private static void basinIs(DustSheetMap map, int row, int column, int want) {
        Check.due("18: basinSize(" + row + ", " + column + ")", want, () -> map.basinSize(row, column));
        Check.due("19: basinSizeUpwards(" + row + ", " + column + ")", want, () -> map.basinSizeUpwards(row, column));
    }

    private static void basins() {
        DustSheetMap map = new DustSheetMap();
        Check.due("17: flat", 36, () -> map.basins());
        basinIs(map, 0, 0, 1);
        map.setHeight(2, 2, 20);
        map.setHeight(2, 3, 30);
        Check.due("17: basins", 29, () -> map.basins());
        basinIs(map, 2, 2, 8);
        basinIs(map, 2, 4, 8);
        basinIs(map, 5, 5, 1);
        makeHole(map, 2, 3);
        Check.due("17: a hole is an end", 30, () -> map.basins());
        basinIs(map, 2, 2, 4);
        basinIs(map, 2, 4, 4);
        noSuchCells("18: basinSize", (row, column) -> map.basinSize(row, column));
        noSuchCells("19: basinSizeUpwards", (row, column) -> map.basinSizeUpwards(row, column));
    }

    private static void spillIs(DustSheetMap map, int row, int column, int want) {
        Check.due("20: spillLevel(" + row + ", " + column + ")", want, () -> map.spillLevel(row, column));
        Check.due("21: spillLevelByRounds(" + row + ", " + column + ")", want, () -> map.spillLevelByRounds(row, column));
    }

    private static DustSheetMap bowl() {
        return mapOf(
                "90 90 90 90 90 90 "
                + "90 80 80 80 80 90 "
                + "90 80 10 20 80 90 "
                + "90 80 30 85 80 90 "
                + "90 80 80 80 70 75 "
                + "90 90 90 90 90 60");
    }

    private static void spillLevels() {
        DustSheetMap map = bowl();
        spillIs(map, 0, 0, 90);
        spillIs(map, 5, 5, 60);
        spillIs(map, 4, 5, 75);
        spillIs(map, 4, 4, 75);
        spillIs(map, 1, 1, 80);
        spillIs(map, 2, 2, 80);
        spillIs(map, 2, 3, 80);
        spillIs(map, 3, 3, 85);
        map.setHeight(2, 4, 40);
        spillIs(map, 2, 2, 80);
        map.setHeight(3, 4, 72);
        spillIs(map, 2, 2, 75);
        makeHole(map, 2, 2);
        spillIs(map, 2, 2, 10);
        spillIs(map, 2, 3, 20);
        spillIs(map, 3, 2, 30);
        spillIs(map, 2, 4, 40);
        spillIs(map, 1, 2, 80);
        noSuchCells("20: spillLevel", (row, column) -> map.spillLevel(row, column));
        noSuchCells("21: spillLevelByRounds", (row, column) -> map.spillLevelByRounds(row, column));
        for (int[] cell : new int[][] {{0, 3}, {2, 5}, {5, 1}, {4, 0}}) {
            DustSheetMap low = new DustSheetMap();
            low.setHeight(cell[0], cell[1], 0);
            spillIs(low, cell[0], cell[1], 0);
            spillIs(low, 1, 3, 50);
        }
        DustSheetMap peak = new DustSheetMap();
        peak.setHeight(2, 2, 99);
        spillIs(peak, 2, 2, 99);
        spillIs(peak, 2, 1, 50);
        Check.due("20: no row or column beside the border is one", 50, () -> mapWithPits().spillLevel(1, 1));
        Check.due("21: the first call", 50, () -> mapWithPits().spillLevelByRounds(1, 1));
        Check.due("21: the first call", 50, () -> mapWithPits().spillLevelByRounds(4, 4));
        Check.due("20: the first call", 50, () -> mapWithPits().spillLevel(4, 4));
    }

    private static DustSheetMap mapWithPits() {
        DustSheetMap map = new DustSheetMap();
        map.setHeight(1, 1, 10);
        map.setHeight(4, 4, 10);
        return map;
    }

    private static void ponds() {
        Check.due("22: flat", 0, () -> new DustSheetMap().pondVolume());
        DustSheetMap map = bowl();
        Check.due("22: pondVolume", 70 + 60 + 50 + 5, () -> map.pondVolume());
        makeHole(map, 2, 2);
        Check.due("22: pondVolume with a hole", 5, () -> map.pondVolume());
    }

    private static void routeIs(DustSheetMap map, int from, int to, Object cost, Object step) {
        int r = from / 10;
        int c = from % 10;
        int tr = to / 10;
        int tc = to % 10;
        String way = " " + from + " to " + to;
        Check.due("23: routeCost" + way, cost, () -> map.routeCost(r, c, tr, tc));
        Check.due("24: routeCostByRounds" + way, cost, () -> map.routeCostByRounds(r, c, tr, tc));
        Check.due("25: steepestStep" + way, step, () -> map.steepestStep(r, c, tr, tc));
        Check.due("26: steepestStepByHalving" + way, step, () -> map.steepestStepByHalving(r, c, tr, tc));
    }

    private static void routes() {
        DustSheetMap map = new DustSheetMap();
        routeIs(map, 0, 0, 0, 0);
        routeIs(map, 0, 55, 10, 0);
        routeIs(map, 55, 0, 10, 0);
        map.setHeight(2, 2, 20);
        map.setHeight(2, 3, 30);
        routeIs(map, 22, 24, 32, 20);
        routeIs(map, 24, 22, 32, 20);
        routeIs(map, 22, 22, 0, 0);
        DustSheetMap steep = mapOf(
                "00 99 00 00 00 00 "
                + "10 99 99 99 99 00 "
                + "20 99 00 10 99 10 "
                + "30 99 99 20 99 20 "
                + "40 99 99 30 99 30 "
                + "50 60 70 40 50 40");
        // 0 0 to 5 0: five steps of 10 and 55; to 0 2: 22 to the 70, 31 to the 40, 22, 44 up, 4 along row 0.
        routeIs(steep, 0, 50, 55, 10);
        routeIs(steep, 0, 2, 178, 30);
        routeIs(steep, 0, 53, 108, 30);
        routeIs(steep, 0, 22, 152, 30);
        routeIs(steep, 1, 12, 2, 0);
        // The cheapest route is one step of 99, the least steep one goes up from the 70.
        routeIs(steep, 0, 1, 100, 29);
        Check.due("24: the first call", 178, () -> copyOf(steep).routeCostByRounds(0, 0, 0, 2));
        Check.due("24: a new beginning", "108 178 42", () -> steep.routeCostByRounds(5, 3, 0, 0) + " "
                + steep.routeCostByRounds(0, 2, 0, 0) + " " + steep.routeCostByRounds(5, 1, 5, 3));
        for (int step = 0; step <= 49; step++) {
            DustSheetMap corner = new DustSheetMap();
            if (step > 0) {
                corner.setHeight(0, 0, 50 + step);
            }
            routeIs(corner, 0, 1, 1 + step, step);
        }
        DustSheetMap cliff = new DustSheetMap();
        cliff.setHeight(0, 0, 0);
        cliff.setHeight(0, 1, 99);
        cliff.setHeight(1, 0, 99);
        routeIs(cliff, 0, 1, 100, 99);
        routeIs(cliff, 0, 55, 1 + 99 + 1 + 49 + 8, 99);
        for (int[] cell : NO_CELLS) {
            noRouteCell(map, cell[0], cell[1], 0, 0);
            noRouteCell(map, 0, 0, cell[0], cell[1]);
        }
    }

    private static DustSheetMap copyOf(DustSheetMap map) {
        StringBuilder picture = new StringBuilder();
        for (int i = 0; i < 36; i++) {
            picture.append(map.height(i / 6, i % 6)).append(' ');
        }
        return mapOf(picture.toString());
    }

    private static void noRouteCell(DustSheetMap map, int r, int c, int tr, int tc) {
        Check.due("23: no such cell", NO_INDEX, () -> map.routeCost(r, c, tr, tc));
        Check.due("24: no such cell", NO_INDEX, () -> map.routeCostByRounds(r, c, tr, tc));
        Check.due("25: no such cell", NO_INDEX, () -> map.steepestStep(r, c, tr, tc));
        Check.due("26: no such cell", NO_INDEX, () -> map.steepestStepByHalving(r, c, tr, tc));
    }

    private static void routesRoundHoles() {
        DustSheetMap map = new DustSheetMap();
        makeHole(map, 0, 1);
        routeIs(map, 0, 2, 4, 0);
        routeIs(map, 1, 1, NO_ELEMENT, NO_ELEMENT);
        routeIs(map, 1, 0, NO_ELEMENT, NO_ELEMENT);
        routeIs(map, 0, 1, NO_ELEMENT, NO_ELEMENT);
        makeHole(map, 1, 0);
        routeIs(map, 0, 11, NO_ELEMENT, NO_ELEMENT);
        routeIs(map, 11, 0, NO_ELEMENT, NO_ELEMENT);
        routeIs(map, 0, 0, 0, 0);
        routeIs(map, 2, 20, 4, 0);
        DustSheetMap wall = withHole(1, 1);
        wall.setHeight(0, 0, 80);
        wall.setHeight(2, 0, 99);
        routeIs(wall, 1, 10, 62, 30);
        routeIs(wall, 10, 1, 62, 30);
        Check.due("23: the cell is looked at first", NO_INDEX, () -> map.routeCost(0, 1, 0, 6));
        Check.due("25: the cell is looked at first", NO_INDEX, () -> map.steepestStep(0, 1, 0, 6));
    }

    private static void moths() {
        DustSheetMap map = new DustSheetMap();
        Check.due("27: addMoth", 0, () -> map.addMoth(0, 0));
        Check.due("27: addMoth", 1, () -> map.addMoth(5, 5));
        Check.due("27: a moth is there", DENIED, () -> map.addMoth(5, 5));
        Check.due("27: denial", "5 1", () -> map.denial() + " " + map.denialDetail());
        Check.due("27: addMoth", 2, () -> map.addMoth(2, 3));
        Check.due("27: addMoth", 3, () -> map.addMoth(3, 2));
        Check.due("31: mothCount", 4, () -> map.mothCount());
        Check.due("27: 4 moths", DENIED, () -> map.addMoth(5, 5));
        Check.due("27: denial", "1 4", () -> map.denial() + " " + map.denialDetail());
        Check.due("27: the cell is looked at first", NO_INDEX, () -> map.addMoth(6, 5));
        Check.due("32, 33: moth 2", "23", () -> "" + map.mothRow(2) + map.mothColumn(2));
        Check.due("28: removeMoth", 3, () -> map.removeMoth(1));
        Check.due("28: later moths", "00 23 32", () -> "" + map.mothRow(0) + map.mothColumn(0) + " " + map.mothRow(1)
                + map.mothColumn(1) + " " + map.mothRow(2) + map.mothColumn(2));
        for (int moth : new int[] {-1, 3, LEAST, MOST}) {
            Check.due("28: moth " + moth, NO_INDEX, () -> map.removeMoth(moth));
            Check.due("32: moth " + moth, NO_INDEX, () -> map.mothRow(moth));
            Check.due("33: moth " + moth, NO_INDEX, () -> map.mothColumn(moth));
        }
        Check.due("28: removeMoth", "2 1 0", () -> map.removeMoth(2) + " " + map.removeMoth(0) + " " + map.removeMoth(0));
        Check.due("28: no moth", NO_INDEX, () -> map.removeMoth(0));
        noSuchCells("27: addMoth", (row, column) -> map.addMoth(row, column));
        makeHole(map, 4, 4);
        makeHole(map, 1, 1);
        Check.due("27: a hole", DENIED, () -> map.addMoth(4, 4));
        Check.due("27: denial", "3 2", () -> map.denial() + " " + map.denialDetail());
    }

    private static void nightFlights() {
        DustSheetMap map = new DustSheetMap();
        Check.due("29: a night without moths", "0 1", () -> map.passNight() + " " + map.nights());
        map.addMoth(0, 0);
        map.addMoth(0, 2);
        Check.due("29: to the first highest neighbour", "0 01 03", () -> map.passNight() + " " + map.mothRow(0)
                + map.mothColumn(0) + " " + map.mothRow(1) + map.mothColumn(1));
        Check.due("34: wear", "0 1 0 1", () -> map.wear(0, 0) + " " + map.wear(0, 1) + " " + map.wear(0, 2) + " " + map.wear(0, 3));
        Check.due("29: moth 0 ahead of moth 1", "0 02 04", () -> map.passNight() + " " + map.mothRow(0)
                + map.mothColumn(0) + " " + map.mothRow(1) + map.mothColumn(1));
        noSuchCells("34: wear", (row, column) -> map.wear(row, column));

        DustSheetMap pair = new DustSheetMap();
        pair.setHeight(3, 3, 90);
        pair.setHeight(3, 4, 80);
        pair.addMoth(3, 2);
        Check.due("29: up, down, up, down, up", "0 0 0 0 1", () -> pair.passNight() + " " + pair.passNight() + " "
                + pair.passNight() + " " + pair.passNight() + " " + pair.passNight());
        Check.due("34: wear", "3 2", () -> pair.wear(3, 3) + " " + pair.wear(3, 4));
        Check.due("35: holes", 1, () -> pair.holes());
        Check.due("29: from the hole", "1 2", () -> pair.passNight() + " " + pair.holes());
        Check.due("29: not back into the hole", "0 24", () -> pair.passNight() + " " + pair.mothRow(0) + pair.mothColumn(0));
        Check.due("37: nights", 7, () -> pair.nights());

        DustSheetMap stay = new DustSheetMap();
        makeHole(stay, 0, 1);
        makeHole(stay, 1, 0);
        stay.addMoth(0, 0);
        Check.due("29: no way out: it stays", "0 0 1 0 00 3 3", () -> stay.passNight() + " " + stay.passNight() + " "
                + stay.passNight() + " " + stay.passNight() + " " + stay.mothRow(0) + stay.mothColumn(0) + " "
                + stay.wear(0, 0) + " " + stay.holes());

        DustSheetMap crowd = new DustSheetMap();
        crowd.addMoth(0, 0);
        crowd.addMoth(0, 1);
        crowd.addMoth(1, 0);
        Check.due("29: moths are in the way", "00 02 20", () -> {
            crowd.setHeight(2, 0, 60);
            crowd.setHeight(0, 2, 60);
            crowd.passNight();
            return "" + crowd.mothRow(0) + crowd.mothColumn(0) + " " + crowd.mothRow(1) + crowd.mothColumn(1) + " "
                    + crowd.mothRow(2) + crowd.mothColumn(2);
        });
        Check.due("34: wear", 1, () -> crowd.wear(0, 0));
    }

    private static void patches() {
        DustSheetMap map = new DustSheetMap();
        Check.due("30: no wear", DENIED, () -> map.patch(0, 0));
        Check.due("30: denial", "4 0", () -> map.denial() + " " + map.denialDetail());
        makeHole(map, 3, 3);
        Check.due("30: no wear", DENIED, () -> map.patch(0, 0));
        Check.due("30: denial", "4 1", () -> map.denial() + " " + map.denialDetail());
        Check.due("35: holes", 1, () -> map.holes());
        Check.due("35: holes in the first and the last cell", 2, () -> {
            DustSheetMap corners = withHole(0, 0);
            makeHole(corners, 5, 5);
            return corners.holes();
        });
        Check.due("30: patch", 3, () -> map.patch(3, 3));
        Check.due("35: holes", "0 0", () -> map.holes() + " " + map.wear(3, 3));
        Check.due("30: patched", DENIED, () -> map.patch(3, 3));
        map.addMoth(0, 0);
        map.addMoth(5, 0);
        Check.due("30: a moth, though no wear", DENIED, () -> map.patch(5, 0));
        Check.due("30: denial", "5 1", () -> map.denial() + " " + map.denialDetail());
        map.passNight();
        map.removeMoth(0);
        Check.due("30: a worn cell", "1 0", () -> map.patch(0, 1) + " " + map.wear(0, 1));
        noSuchCells("30: patch", (row, column) -> map.patch(row, column));
    }

    private static void nightsUntilHole() {
        DustSheetMap map = new DustSheetMap();
        Check.due("36: no moths", NO_ELEMENT, () -> map.nightsUntilHole(3, 3));
        map.setHeight(3, 3, 90);
        map.setHeight(3, 4, 80);
        map.addMoth(3, 2);
        Check.due("36: nightsUntilHole", 5, () -> map.nightsUntilHole(3, 3));
        Check.due("36: nightsUntilHole", 6, () -> map.nightsUntilHole(3, 4));
        Check.due("36: nothing changes", "0 0 0 32", () -> map.nights() + " " + map.wear(3, 3) + " " + map.holes() + " "
                + map.mothRow(0) + map.mothColumn(0));
        Check.due("36: not a change", 3, () -> map.undoCount());
        for (int night = 0; night < 5; night++) {
            map.passNight();
        }
        Check.due("36: now", 0, () -> map.nightsUntilHole(3, 3));
        Check.due("36: nightsUntilHole", 1, () -> map.nightsUntilHole(3, 4));
        noSuchCells("36: nightsUntilHole", (row, column) -> map.nightsUntilHole(row, column));
        aHoleInTheLastNight();
    }

    /** Passes nights until a cell has a hole, and asks at each number of nights that is left. */
    private static void aHoleInTheLastNight() {
        int longest = 0;
        for (int cell = 0; cell < 36; cell++) {
            DustSheetMap map = new DustSheetMap();
            map.addMoth(0, 0);
            int nights = 0;
            while (nights < 100 && map.wear(cell / 6, cell % 6) < 3) {
                map.passNight();
                nights++;
            }
            DustSheetMap fresh = new DustSheetMap();
            fresh.addMoth(0, 0);
            int row = cell / 6;
            int column = cell % 6;
            Object want = nights <= 30 ? (Object) nights : NO_ELEMENT;
            Check.due("36: cell " + cell, want, () -> fresh.nightsUntilHole(row, column));
            for (int passed = 1; passed <= nights && nights < 100; passed++) {
                fresh.passNight();
                int left = nights - passed;
                Check.due("36: cell " + cell + " after " + passed, left <= 30 ? (Object) left : NO_ELEMENT,
                        () -> fresh.nightsUntilHole(row, column));
            }
            longest = nights < 100 ? Math.max(longest, nights) : longest;
        }
        Check.same("36: some hole takes more than 30 nights", "true", "" + (longest > 31));
    }

    private static void accounts() {
        DustSheetMap map = withHole(0, 0);
        map.setHeight(0, 0, 10);
        Check.due("37: nights", 3, () -> map.nights());
        map.pour(0, 1, 30);
        map.pour(4, 4, 12);
        map.pour(4, 4, 3);
        Check.due("38: poured", 45, () -> map.poured());
        Check.due("39: standing", 15, () -> map.standing());
        Check.due("40: drained", 30, () -> map.drained());
        Check.due("41: meanHeight", (36 * 50 - 40) / 36.0, () -> map.meanHeight());
        Check.due("41: meanHeight", 50.0, () -> new DustSheetMap().meanHeight());
        Check.due("41: one more", 1801 / 36.0, () -> {
            DustSheetMap other = new DustSheetMap();
            other.setHeight(3, 3, 51);
            return other.meanHeight();
        });
    }

    private static void slopes() {
        DustSheetMap map = new DustSheetMap();
        Check.due("42: flat", 0f, () -> map.slope(3, 3));
        map.setHeight(0, 1, 51);
        map.setHeight(1, 1, 49);
        Check.due("42: two neighbours", 0.5f, () -> map.slope(0, 0));
        Check.due("42: three neighbours", 4f / 3f, () -> map.slope(0, 1));
        Check.due("42: three neighbours", 1f / 3f, () -> map.slope(1, 0));
        Check.due("42: four neighbours", 5f / 4f, () -> map.slope(1, 1));
        noSuchCells("42: slope", (row, column) -> map.slope(row, column));
    }

    private static void feeding() {
        DustSheetMap map = new DustSheetMap();
        for (int i = 1; i <= 60; i++) {
            int length = i;
            Check.due("43: feed", length, () -> map.feed((char) (length * 1000)));
        }
        Check.due("43: full", BAD_STATE, () -> map.feed('a'));
        Check.due("43: still full", BAD_STATE, () -> map.feed('a'));
        Check.due("44: no text", BAD_ARGUMENT, () -> map.execute());
        Check.due("43: empty again", 1, () -> map.feed('a'));
        Check.due("43: feeding is no change", 0, () -> map.undoCount());
    }

    private static void executing() {
        DustSheetMap map = new DustSheetMap();
        Check.due("44: heights", 3, () -> run(map, "height 00=7;height 55=70;height 01=07"));
        Check.due("44: heights", "7 70 7", () -> map.height(0, 0) + " " + map.height(5, 5) + " " + map.height(0, 1));
        Check.due("44: pegs", 3, () -> run(map, "peg 23;peg 32;free 23"));
        Check.due("44: pegs", "false true", () -> map.isPegged(2, 3) + " " + map.isPegged(3, 2));
        Check.due("44: water", 4, () -> run(map, "pour 02 9;pour 55 99;height 55=80;settle"));
        Check.due("44: water", "9 108 50", () -> map.water(0, 1) + map.water(0, 0) + " " + map.standing() + " "
                + (map.height(5, 4)));
        Check.due("44: moths", 4, () -> run(map, "moth 33;moth 44;swat 0;night"));
        Check.due("44: moths", "1 34 1", () -> map.mothCount() + " " + map.mothRow(0) + map.mothColumn(0) + " " + map.nights());
        Check.due("44: patch", 3, () -> run(map, "swat 0;patch 34;drape"));
        Check.due("44: patch", "0 0", () -> map.mothCount() + " " + map.wear(3, 4));
        Check.due("44: drape", (2 * 7 + 7 + 50) / 4, () -> map.height(0, 0));
        Check.due("44: ten commands", 10, () -> run(map, "night;night;night;night;night;night;night;night;night;drape"));
        Check.due("44: one change each", 6, () -> map.undoCount());
    }

    private static void textFails(DustSheetMap map, String text, int command, int cause) {
        String before = sheetOf(map);
        int undoable = map.undoCount();
        Check.due("44: " + text, DENIED, () -> run(map, text));
        Check.due("44: denial of " + text, "7 " + command + " " + cause,
                () -> map.denial() + " " + map.denialDetail() + " " + map.denialCause());
        Check.same("44: nothing changes by " + text, before, sheetOf(map));
        Check.due("44: no change by " + text, undoable, () -> map.undoCount());
        Check.due("44: the buffer is empty", 1, () -> map.feed('x'));
        Check.due("44: a wrong text", BAD_ARGUMENT, () -> map.execute());
        Check.due("44: the denial stays", 7, () -> map.denial());
    }

    private static void textsThatFail() {
        textFails(new DustSheetMap(), "height 00=50", 0, 6);
        textFails(new DustSheetMap(), "height 00=51;height 00=51", 1, 6);
        textFails(new DustSheetMap(), "height 60=51", 0, 8);
        textFails(new DustSheetMap(), "peg 00;peg 00", 1, 2);
        textFails(new DustSheetMap(), "night;free 00", 1, 2);
        textFails(new DustSheetMap(), "pour 00 5;pour 00 0", 1, 8);
        textFails(new DustSheetMap(), "settle;pour 66 0", 1, 8);
        textFails(new DustSheetMap(), "drape;swat 0", 1, 8);
        textFails(new DustSheetMap(), "moth 00;moth 00", 1, 5);
        textFails(new DustSheetMap(), "moth 00;moth 01;moth 02;moth 03;moth 04", 4, 1);
        textFails(new DustSheetMap(), "moth 99", 0, 8);
        textFails(new DustSheetMap(), "patch 06", 0, 8);
        textFails(new DustSheetMap(), "patch 05", 0, 4);
        textFails(withHole(3, 3), "moth 33", 0, 3);
        textFails(withHole(3, 3), "patch 33;moth 33;night;swat 0;swat 0", 4, 8);
        DustSheetMap map = withHole(3, 3);
        map.pour(1, 1, 9);
        map.saveSnapshot();
        textFails(map, "height 33=0;pour 32 9;pour 33 9;settle;drape;free 11", 5, 2);
        Check.due("44: a text that runs keeps the denial", "1 7 5 2", () -> run(map, "drape") + " " + map.denial() + " "
                + map.denialDetail() + " " + map.denialCause());
    }

    private static void faultIs(String text, int want) {
        DustSheetMap map = new DustSheetMap();
        Check.due("45: nothing kept", NO_ELEMENT, () -> map.faultPosition());
        Check.due("44: " + text, BAD_ARGUMENT, () -> run(map, text));
        Check.due("45: faultPosition of " + text, want, () -> map.faultPosition());
        Check.due("44: the buffer is empty", 1, () -> map.feed('n'));
    }

    private static void faultPositions() {
        faultIs("", 0);
        faultIs(" ", 0);
        faultIs(";", 0);
        faultIs("p", 1);
        faultIs("px", 1);
        faultIs("pex", 2);
        faultIs("pa", 2);
        faultIs("poux", 3);
        faultIs("patcx", 4);
        faultIs("sx", 1);
        faultIs("sw", 2);
        faultIs("swe", 2);
        faultIs("set", 3);
        faultIs("settle ", 6);
        faultIs("drape;", 6);
        faultIs("drape;;", 6);
        faultIs("drape ;", 5);
        faultIs("Drape", 0);
        faultIs("peg  22", 4);
        faultIs("peg 2", 5);
        faultIs("peg 2x", 5);
        faultIs("peg 222", 6);
        faultIs("peg 22;free", 11);
        faultIs("height 22", 9);
        faultIs("height 22 5", 9);
        faultIs("height 22=", 10);
        faultIs("height 22=x", 10);
        faultIs("height 22=1x", 11);
        faultIs("height 22=123", 12);
        faultIs("pour 22 ", 8);
        faultIs("pour 22=5", 7);
        faultIs("pour 22 100", 10);
        faultIs("pour 22 -1", 8);
        faultIs("swat 12", 6);
        faultIs("swat x", 5);
        faultIs("moth 9 9", 6);
        faultIs("height 00=50;night;x", 19);
        faultIs("night\u0100", 5);
        faultIs("n\u0169ght", 1);
        faultIs("night;night;night;night;night;night;night;night;night;night;", 60);
        DustSheetMap map = new DustSheetMap();
        Check.due("44: a wrong text changes nothing", BAD_ARGUMENT, () -> run(map, "night;drapes"));
        Check.due("44: a wrong text changes nothing", "0 0", () -> map.nights() + " " + map.undoCount());
        Check.due("45: kept", "11 1 11", () -> map.faultPosition() + " " + run(map, "night") + " " + map.faultPosition());
        Check.due("45: kept", DENIED, () -> run(map, "height 00=50"));
        Check.due("45: kept", 11, () -> map.faultPosition());
        Check.due("45: undo does not touch it", "0 11", () -> map.undo() + " " + map.faultPosition());
        Check.due("45: the last one", BAD_ARGUMENT, () -> map.execute());
        Check.due("45: the last one", 0, () -> map.faultPosition());
    }

    private static void rows() {
        DustSheetMap map = new DustSheetMap();
        Check.due("47: an empty line", NO_INDEX, () -> map.lineCharacter(0));
        map.setHeight(4, 1, 7);
        map.peg(4, 1);
        map.setHeight(4, 2, 0);
        map.pour(4, 2, 1);
        map.addMoth(4, 2);
        map.setHeight(4, 5, 99);
        Check.due("46: writeRow", 18, () -> map.writeRow(4));
        Check.due("47: the line", "50 7^ 0~m 50 50 99", () -> lineOf(map, map.writeRow(4)));
        for (int row : new int[] {-1, 6, LEAST, MOST}) {
            Check.due("46: row " + row, NO_INDEX, () -> map.writeRow(row));
        }
        Check.due("46: the line stays", "50 7^ 0~m 50 50 99", () -> lineOf(map, 18));
        for (int index : new int[] {-1, 18, LEAST, MOST}) {
            Check.due("47: index " + index, NO_INDEX, () -> map.lineCharacter(index));
        }
        Check.due("46: a shorter line replaces it", "17 50", () -> map.writeRow(0) + " " + lineOf(map, 2));
        Check.due("47: behind the shorter line", NO_INDEX, () -> map.lineCharacter(17));
        DustSheetMap all = new DustSheetMap();
        all.setHeight(5, 5, 90);
        all.peg(5, 5);
        all.addMoth(4, 5);
        all.setHeight(5, 4, 80);
        for (int night = 0; night < 5; night++) {
            all.passNight();
        }
        all.setHeight(5, 5, 3);
        Check.due("46: a hole and a moth", "50 50 50 50 80 3^om", () -> lineOf(all, all.writeRow(5)));
        Check.due("46: all signs", "50 50 50 50 80 3^~om", () -> {
            DustSheetMap wet = new DustSheetMap();
            wet.pour(5, 5, 2);
            wet.setHeight(5, 5, 90);
            wet.setHeight(5, 4, 80);
            wet.addMoth(4, 5);
            for (int night = 0; night < 5; night++) {
                wet.passNight();
            }
            wet.peg(5, 5);
            wet.setHeight(5, 5, 3);
            return lineOf(wet, wet.writeRow(5));
        });
    }

    private static void denials() {
        DustSheetMap map = new DustSheetMap();
        Check.due("48: none", NO_ELEMENT, () -> map.denial());
        Check.due("49: none", NO_ELEMENT, () -> map.denialDetail());
        Check.due("50: none", NO_ELEMENT, () -> map.denialCause());
        Check.due("48: an exception of another kind is no denial", NO_INDEX, () -> map.peg(6, 6));
        Check.due("48: none", NO_ELEMENT, () -> map.denial());
        Check.due("48: denied", DENIED, () -> map.unpeg(0, 0));
        Check.due("48, 49: denial", "2 0", () -> map.denial() + " " + map.denialDetail());
        Check.due("50: no cause", NO_ELEMENT, () -> map.denialCause());
        Check.due("48: denied", DENIED, () -> run(map, "night;height 00=50"));
        Check.due("48, 49, 50: denial", "7 1 6", () -> map.denial() + " " + map.denialDetail() + " " + map.denialCause());
        map.peg(0, 0);
        map.undo();
        map.saveSnapshot();
        map.restoreSnapshot();
        Check.due("48, 49, 50: it stays", "7 1 6", () -> map.denial() + " " + map.denialDetail() + " " + map.denialCause());
        Check.due("48: denied", DENIED, () -> map.setHeight(0, 0, 50));
        Check.due("48, 49: denial", "6 50", () -> map.denial() + " " + map.denialDetail());
        Check.due("50: the cause is gone", NO_ELEMENT, () -> map.denialCause());
    }

    private static void undoing() {
        DustSheetMap map = new DustSheetMap();
        Check.due("51: nothing", BAD_STATE, () -> map.undo());
        for (int i = 1; i <= 10; i++) {
            int height = 50 + i;
            int count = Math.min(i, 8);
            map.setHeight(0, 0, height);
            Check.due("52: undoCount", count, () -> map.undoCount());
        }
        Check.due("52: a denied call is no change", DENIED, () -> map.setHeight(0, 0, 60));
        for (int i = 7; i >= 0; i--) {
            int left = i;
            Check.due("51: undo", left + " " + (52 + left), () -> map.undo() + " " + map.height(0, 0));
            Check.due("52: undoCount", left, () -> map.undoCount());
        }
        Check.due("51: older ones are forgotten", BAD_STATE, () -> map.undo());
        Check.due("51: nothing changes", 52, () -> map.height(0, 0));
        Check.due("51: a change after it", "1 0 52", () -> {
            map.setHeight(0, 0, 1);
            return map.undoCount() + " " + map.undo() + " " + map.height(0, 0);
        });
        Check.due("51: a change that alters nothing is one", "1 2 1 0", () -> {
            map.settle();
            int first = map.undoCount();
            map.drape();
            return first + " " + map.undoCount() + " " + map.undo() + " " + map.undo();
        });
    }

    /** A sheet on which each change alters something. */
    private static DustSheetMap busy() {
        DustSheetMap map = new DustSheetMap();
        map.pour(2, 2, 7);
        map.setHeight(2, 3, 40);
        map.peg(1, 1);
        map.addMoth(4, 4);
        map.passNight();
        return map;
    }

    private static void undoes(String what, Consumer<DustSheetMap> change) {
        DustSheetMap map = busy();
        String before = sheetOf(map);
        change.accept(map);
        Check.due("52: " + what, 6, () -> map.undoCount());
        Check.same("51: " + what + " does something", "false", "" + before.equals(sheetOf(map)));
        map.undo();
        Check.same("51: undo of " + what, before, sheetOf(map));
    }

    private static void undoOfEachChange() {
        undoes("setHeight", map -> map.setHeight(0, 0, 3));
        undoes("peg", map -> map.peg(0, 0));
        undoes("unpeg", map -> map.unpeg(1, 1));
        undoes("drape", map -> map.drape());
        undoes("pour", map -> map.pour(5, 0, 3));
        undoes("settle", map -> map.settle());
        undoes("addMoth", map -> map.addMoth(0, 0));
        undoes("removeMoth", map -> map.removeMoth(0));
        undoes("passNight", map -> map.passNight());
        undoes("execute of a text that patches", map -> run(map, "swat 0;patch 34"));
        undoes("execute", map -> run(map, "moth 00;night;night;pour 33 4;drape;settle"));
        DustSheetMap map = busy();
        map.removeMoth(0);
        map.patch(3, 4);
        Check.due("51: undo of patch", "6 1", () -> map.undo() + " " + map.wear(3, 4));
        feed(map, "night");
        int length = map.writeRow(2);
        map.undo();
        Check.due("51: the line stays", length, () -> lineOf(map, length).length());
        Check.due("51: the buffer stays", 6, () -> map.feed(';'));
    }

    private static void snapshots() {
        DustSheetMap map = new DustSheetMap();
        Check.due("54: none", BAD_STATE, () -> map.restoreSnapshot());
        Check.due("53: saveSnapshot", 0, () -> map.saveSnapshot());
        map.pour(2, 2, 7);
        map.setHeight(2, 3, 40);
        map.peg(1, 1);
        map.addMoth(4, 4);
        map.addMoth(4, 3);
        map.passNight();
        Check.due("53: it replaces an earlier one", 2, () -> map.saveSnapshot());
        Check.due("53: no change", 6, () -> map.undoCount());
        String saved = sheetOf(map);
        run(map, "free 11;swat 0;night;drape;settle;pour 22 9");
        map.removeMoth(0);
        Check.due("54: restoreSnapshot", 2, () -> map.restoreSnapshot());
        Check.same("54: everything", saved, sheetOf(map));
        Check.due("54: nothing can be undone", 0, () -> map.undoCount());
        Check.due("54: nothing can be undone", BAD_STATE, () -> map.undo());
        map.setHeight(2, 3, 41);
        map.passNight();
        map.undo();
        Check.due("54: the snapshot is kept", 2, () -> map.restoreSnapshot());
        Check.due("54: the snapshot is kept", "40 1", () -> map.height(2, 3) + " " + map.nights());
        feed(map, "nig");
        int length = map.writeRow(2);
        map.restoreSnapshot();
        Check.due("54: the line stays", "50 50 50~ 40 50 50", () -> lineOf(map, length));
        Check.due("54: the buffer stays", 4, () -> map.feed('h'));
        DustSheetMap undone = new DustSheetMap();
        undone.addMoth(0, 0);
        undone.saveSnapshot();
        undone.undo();
        Check.due("54: undo does not touch the snapshot", "0 1", () -> undone.mothCount() + " " + undone.restoreSnapshot());
    }
}
