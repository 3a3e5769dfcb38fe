/** The boundary cases of promises 48 to 54: the latest denial, undo and snapshots. */
public final class BoundaryUndoTest extends MapFixture {
    public static void main(String[] args) {
        nothingDenied();
        eachDenial();
        eachCause();
        denialsReplaceDenials();
        denialsAreKept();
        nothingToUndo();
        upToEightChanges();
        olderOnesAreForgotten();
        undoAndGoOn();
        eachChangeCountsAndIsUndone();
        whatIsNoChange();
        undoLeavesTexts();
        noSnapshot();
        snapshotOfMoths();
        snapshotIsReplacedAndKept();
        noUndoAfterRestoring();
        snapshotOfEverything();
        snapshotLeavesTexts();
        Check.end();
    }

    private static void noDenial(String what, DustSheetMap map) {
        Check.due("48: " + what, NO_ELEMENT, () -> map.denial());
        Check.due("49: " + what, NO_ELEMENT, () -> map.denialDetail());
        Check.due("50: " + what, NO_ELEMENT, () -> map.denialCause());
    }

    private static void nothingDenied() {
        DustSheetMap map = new DustSheetMap();
        noDenial("nothing was denied yet", map);
        map.setHeight(0, 0, 1);
        map.peg(0, 0);
        noDenial("calls that succeed", map);
        Check.due("48: another exception", NO_INDEX, () -> map.peg(6, 6));
        Check.due("48: another exception", BAD_ARGUMENT, () -> map.setHeight(0, 0, 100));
        Check.due("48: another exception", BAD_ARGUMENT, () -> map.execute());
        Check.due("48: another exception", NO_INDEX, () -> map.removeMoth(0));
        Check.due("48: another exception", NO_ELEMENT, () -> map.nightsUntilHole(0, 0));
        Check.due("48: another exception", BAD_STATE, () -> map.restoreSnapshot());
        noDenial("no exception but the one of a denial", map);
    }

    /** A sheet with a hole at row 2, column 2, a peg at row 3, column 3, and 4 moths in row 5. */
    private static DustSheetMap sheet() {
        DustSheetMap map = withHole(2, 2);
        map.peg(3, 3);
        for (int column = 0; column < 4; column++) {
            map.addMoth(5, column);
        }
        return map;
    }

    private static void denied(String what, DustSheetMap map, String denial, Check.Call call) {
        Check.due(what, DENIED, call);
        Check.same(what, denial, denialOf(map));
    }

    private static void eachDenial() {
        DustSheetMap map = sheet();
        denied("48, 49: denial 1", map, plain(1, 4), () -> map.addMoth(0, 0));
        denied("48, 49: denial 2 of peg", map, plain(2, 1), () -> map.peg(3, 3));
        denied("48, 49: denial 2 of unpeg", map, plain(2, 1), () -> map.unpeg(2, 2));
        denied("48, 49: denial 4", map, plain(4, 1), () -> map.patch(0, 0));
        denied("48, 49: denial 5 of patch, the least index", map, plain(5, 0), () -> map.patch(5, 0));
        denied("48, 49: denial 5 of patch, the greatest index", map, plain(5, 3), () -> map.patch(5, 3));
        denied("48, 49: denial 6", map, plain(6, 50), () -> map.setHeight(2, 2, 50));
        denied("48 to 50: denial 7", map, "7 0 6", () -> run(map, "height 22=50"));
        map.removeMoth(3);
        denied("48, 49: denial 3", map, plain(3, 1), () -> map.addMoth(2, 2));
        denied("48, 49: denial 5 of addMoth", map, plain(5, 2), () -> map.addMoth(5, 2));
    }

    private static void eachCause() {
        DustSheetMap map = sheet();
        denied("50: cause 1", map, "7 0 1", () -> run(map, "moth 00"));
        denied("50: cause 2 of peg", map, "7 0 2", () -> run(map, "peg 33"));
        denied("50: cause 2 of free", map, "7 0 2", () -> run(map, "free 22"));
        denied("50: cause 4", map, "7 0 4", () -> run(map, "patch 00"));
        denied("50: cause 5 of patch", map, "7 0 5", () -> run(map, "patch 50"));
        denied("50: cause 6", map, "7 0 6", () -> run(map, "height 00=50"));
        denied("50: cause 8, no such cell", map, "7 0 8", () -> run(map, "moth 60"));
        denied("50: cause 8, the units out of range", map, "7 0 8", () -> run(map, "pour 00 0"));
        denied("50: cause 8, no such moth", map, "7 0 8", () -> run(map, "swat 4"));
        denied("50: cause 3", map, "7 1 3", () -> run(map, "swat 3;moth 22"));
        denied("50: cause 5 of moth", map, "7 1 5", () -> run(map, "swat 3;moth 50"));
        denied("49: the greatest index of a command", map, "7 9 2", () -> run(map, "night;".repeat(9) + "peg 33"));
    }

    private static void denialsReplaceDenials() {
        DustSheetMap map = sheet();
        denied("50: a cause", map, "7 0 8", () -> run(map, "peg 66"));
        denied("50: no cause after one", map, plain(2, 1), () -> map.peg(3, 3));
        denied("50: a cause after none", map, "7 0 2", () -> run(map, "peg 33"));
        denied("50: another cause", map, "7 1 4", () -> run(map, "night;patch 00"));
        denied("48, 49: the latest denial", map, plain(6, 50), () -> map.setHeight(0, 0, 50));
        map.setHeight(0, 0, 0);
        denied("49: the least detail", map, plain(6, 0), () -> map.setHeight(0, 0, 0));
        map.setHeight(0, 0, 99);
        denied("49: the greatest detail", map, plain(6, 99), () -> map.setHeight(0, 0, 99));
    }

    private static void denialsAreKept() {
        DustSheetMap map = sheet();
        denied("48 to 50: denied", map, "7 1 2", () -> run(map, "night;peg 33"));
        map.setHeight(0, 0, 3);
        run(map, "night;peg 11");
        Check.same("48 to 50: kept when calls succeed", "7 1 2", denialOf(map));
        Check.due("48: another exception", NO_INDEX, () -> map.peg(0, 6));
        Check.due("48: another exception", BAD_ARGUMENT, () -> run(map, "peg"));
        Check.due("48: another exception", BAD_ARGUMENT, () -> map.pour(0, 0, 0));
        Check.same("48 to 50: kept by other exceptions", "7 1 2", denialOf(map));
        map.saveSnapshot();
        map.undo();
        map.undo();
        Check.same("48 to 50: kept by undo", "7 1 2", denialOf(map));
        map.restoreSnapshot();
        Check.same("48 to 50: kept by a snapshot", "7 1 2", denialOf(map));
    }

    private static void nothingToUndo() {
        DustSheetMap map = new DustSheetMap();
        Check.due("51: none on a new object", BAD_STATE, () -> map.undo());
        Check.due("52: none on a new object", 0, () -> map.undoCount());
        Check.due("51: denied calls are none", DENIED, () -> map.setHeight(0, 0, 50));
        Check.due("51: still none", BAD_STATE, () -> map.undo());
        map.setHeight(0, 0, 1);
        Check.due("52: one", 1, () -> map.undoCount());
        Check.due("51: one", "0 50", () -> map.undo() + " " + map.height(0, 0));
        Check.due("51: none any more", BAD_STATE, () -> map.undo());
        Check.due("51: refused, nothing changes", "50 0", () -> map.height(0, 0) + " " + map.undoCount());
    }

    private static DustSheetMap raised(int changes) {
        DustSheetMap map = new DustSheetMap();
        for (int change = 1; change <= changes; change++) {
            map.setHeight(0, 0, 50 + change);
        }
        return map;
    }

    private static void upToEightChanges() {
        for (int changes = 0; changes <= 25; changes++) {
            int due = Math.min(changes, 8);
            DustSheetMap map = raised(changes);
            Check.due("52: after " + changes + " changes", due, () -> map.undoCount());
        }
        DustSheetMap eight = raised(8);
        for (int left = 7; left >= 0; left--) {
            String due = left + " " + left + " " + (50 + left);
            Check.due("51: the latest of 8 changes", due, () -> eight.undo() + " " + eight.undoCount() + " " + eight.height(0, 0));
        }
        Check.due("51: no ninth one", BAD_STATE, () -> eight.undo());
    }

    private static void olderOnesAreForgotten() {
        for (int changes : new int[] {9, 10, 15, 16, 17, 24, 25}) {
            DustSheetMap map = raised(changes);
            for (int left = 7; left >= 0; left--) {
                String due = left + " " + (50 + changes - 8 + left);
                Check.due("51: the latest 8 of " + changes, due, () -> map.undo() + " " + map.height(0, 0));
            }
            Check.due("51: older ones of " + changes + " are forgotten", BAD_STATE, () -> map.undo());
            Check.due("51: and stay as they are", 50 + changes - 8, () -> map.height(0, 0));
        }
    }

    private static void undoAndGoOn() {
        DustSheetMap map = raised(10);
        map.undo();
        map.undo();
        map.setHeight(0, 0, 70);
        Check.due("52: six and one more", 7, () -> map.undoCount());
        Check.due("51: the new one", "6 58", () -> map.undo() + " " + map.height(0, 0));
        Check.due("51: those before", "5 57", () -> map.undo() + " " + map.height(0, 0));
        for (int change = 0; change < 8; change++) {
            map.setHeight(0, 0, 80 + change);
        }
        for (int left = 7; left > 0; left--) {
            String due = left + " " + (79 + left);
            Check.due("51: eight new ones", due, () -> map.undo() + " " + map.height(0, 0));
        }
        Check.due("51: the first of them", "0 57", () -> map.undo() + " " + map.height(0, 0));
        Check.due("51: older ones are forgotten", BAD_STATE, () -> map.undo());
        DustSheetMap empty = raised(3);
        for (int i = 0; i < 3; i++) {
            empty.undo();
        }
        empty.setHeight(0, 0, 99);
        Check.due("51: undone to none and begun again", "1 0 50", () -> empty.undoCount() + " " + empty.undo() + " " + empty.height(0, 0));
    }

    /** A sheet on which each change alters something. */
    private static DustSheetMap busy() {
        DustSheetMap map = new DustSheetMap();
        map.pour(2, 2, 7);
        map.setHeight(2, 3, 40);
        map.peg(1, 1);
        map.addMoth(4, 4);
        map.addMoth(0, 0);
        map.passNight();
        map.removeMoth(1);
        return map;
    }

    private static void undoes(String what, java.util.function.Consumer<DustSheetMap> change) {
        DustSheetMap map = busy();
        map.saveSnapshot();
        map.restoreSnapshot();
        change.accept(map);
        Check.due("52: " + what + " is a change", 1, () -> map.undoCount());
        Check.same("51: " + what + " alters something", "false", "" + sheetOf(map).equals(sheetOf(busy())));
        Check.due("51: undo of " + what, 0, () -> map.undo());
        Check.same("51: undo of " + what, sheetOf(busy()), sheetOf(map));
    }

    private static void eachChangeCountsAndIsUndone() {
        undoes("setHeight", map -> map.setHeight(0, 0, 3));
        undoes("peg", map -> map.peg(0, 0));
        undoes("unpeg", map -> map.unpeg(1, 1));
        undoes("drape", map -> map.drape());
        undoes("pour", map -> map.pour(5, 0, 3));
        undoes("settle", map -> map.settle());
        undoes("addMoth", map -> map.addMoth(0, 0));
        undoes("removeMoth", map -> map.removeMoth(0));
        undoes("passNight", map -> map.passNight());
        undoes("patch", map -> map.patch(0, 1));
        undoes("execute", map -> run(map, "moth 00;night;night;peg 33;free 11;pour 33 4;drape;settle"));
        DustSheetMap idle = new DustSheetMap();
        idle.settle();
        idle.drape();
        Check.due("52: changes that alter nothing", 2, () -> idle.undoCount());
    }

    private static void isNoChange(String what, DustSheetMap map, Check.Call call) {
        Check.answerOf(call);
        Check.due("52: " + what + " is no change", 1, () -> map.undoCount());
    }

    private static void whatIsNoChange() {
        DustSheetMap map = new DustSheetMap();
        map.setHeight(0, 0, 1);
        isNoChange("height", map, () -> map.height(0, 0));
        isNoChange("isPegged", map, () -> map.isPegged(0, 0));
        isNoChange("rowByHeight", map, () -> map.rowByHeight(0));
        isNoChange("columnByHeight", map, () -> map.columnByHeight(0));
        isNoChange("islands", map, () -> map.islands(50));
        isNoChange("islandsByUnions", map, () -> map.islandsByUnions(50));
        isNoChange("water", map, () -> map.water(0, 0));
        isNoChange("endRow", map, () -> map.endRow(0, 0));
        isNoChange("endColumn", map, () -> map.endColumn(0, 0));
        isNoChange("basins", map, () -> map.basins());
        isNoChange("basinSize", map, () -> map.basinSize(0, 0));
        isNoChange("basinSizeUpwards", map, () -> map.basinSizeUpwards(0, 0));
        isNoChange("spillLevel", map, () -> map.spillLevel(0, 0));
        isNoChange("spillLevelByRounds", map, () -> map.spillLevelByRounds(0, 0));
        isNoChange("pondVolume", map, () -> map.pondVolume());
        isNoChange("routeCost", map, () -> map.routeCost(0, 0, 5, 5));
        isNoChange("routeCostByRounds", map, () -> map.routeCostByRounds(0, 0, 5, 5));
        isNoChange("steepestStep", map, () -> map.steepestStep(0, 0, 5, 5));
        isNoChange("steepestStepByHalving", map, () -> map.steepestStepByHalving(0, 0, 5, 5));
        isNoChange("mothCount", map, () -> map.mothCount());
        isNoChange("mothRow", map, () -> map.mothRow(0));
        isNoChange("mothColumn", map, () -> map.mothColumn(0));
        isNoChange("wear", map, () -> map.wear(0, 0));
        isNoChange("holes", map, () -> map.holes());
        isNoChange("nightsUntilHole", map, () -> map.nightsUntilHole(0, 0));
        isNoChange("nights", map, () -> map.nights());
        isNoChange("poured", map, () -> map.poured());
        isNoChange("standing", map, () -> map.standing());
        isNoChange("drained", map, () -> map.drained());
        isNoChange("meanHeight", map, () -> map.meanHeight());
        isNoChange("slope", map, () -> map.slope(0, 0));
        isNoChange("feed", map, () -> map.feed('x'));
        isNoChange("execute of a wrong text", map, () -> map.execute());
        isNoChange("execute of a text that fails", map, () -> run(map, "night;free 00"));
        isNoChange("faultPosition", map, () -> map.faultPosition());
        isNoChange("writeRow", map, () -> map.writeRow(0));
        isNoChange("lineCharacter", map, () -> map.lineCharacter(0));
        isNoChange("denial", map, () -> map.denial());
        isNoChange("denialDetail", map, () -> map.denialDetail());
        isNoChange("denialCause", map, () -> map.denialCause());
        isNoChange("undoCount", map, () -> map.undoCount());
        isNoChange("saveSnapshot", map, () -> map.saveSnapshot());
        Check.due("51: the change is undone", "0 50", () -> map.undo() + " " + map.height(0, 0));
        Check.due("51: undo is no change", BAD_STATE, () -> map.undo());
        map.restoreSnapshot();
        Check.due("52: restoreSnapshot is no change", 0, () -> map.undoCount());
    }

    /** A map with a line, a fault position, a denial with a cause, and three characters in the buffer. */
    private static DustSheetMap withTexts() {
        DustSheetMap map = new DustSheetMap();
        map.setHeight(0, 0, 1);
        Check.answerOf(() -> run(map, "drapes"));
        Check.answerOf(() -> run(map, "night;free 00"));
        map.writeRow(0);
        feed(map, "nig");
        return map;
    }

    private static void textsStay(String what, DustSheetMap map) {
        Check.same("51 to 54: " + what + ", the line", "1 50 50 50 50 50", lineOf(map, 16));
        Check.due("51 to 54: " + what + ", the end of the line", NO_INDEX, () -> map.lineCharacter(16));
        Check.due("51 to 54: " + what + ", the fault position", 5, () -> map.faultPosition());
        Check.same("51 to 54: " + what + ", the denial", "7 1 2", denialOf(map));
        Check.due("51 to 54: " + what + ", the buffer", 4, () -> map.feed('h'));
    }

    private static void undoLeavesTexts() {
        DustSheetMap map = withTexts();
        map.undo();
        textsStay("undo", map);
        Check.due("51: the text goes on", "1 1", () -> run(map, "t") + " " + map.nights());
        DustSheetMap later = new DustSheetMap();
        later.setHeight(3, 3, 1);
        Check.due("51: an undone text does not come back", "1 1", () -> {
            run(later, "drape");
            later.undo();
            return later.feed('x') + " " + later.undoCount();
        });
    }

    private static void noSnapshot() {
        DustSheetMap map = new DustSheetMap();
        map.setHeight(0, 0, 1);
        Check.due("54: no snapshot", BAD_STATE, () -> map.restoreSnapshot());
        Check.due("54: refused, nothing changes", "1 1", () -> map.height(0, 0) + " " + map.undoCount());
    }

    private static void snapshotOfMoths() {
        DustSheetMap map = new DustSheetMap();
        for (int moths = 0; moths <= 4; moths++) {
            int count = moths;
            if (moths > 0) {
                map.addMoth(moths, moths);
            }
            Check.due("53: the number of moths", count, () -> map.saveSnapshot());
            Check.due("54: the number of moths afterwards", count, () -> map.restoreSnapshot());
        }
        for (int moths = 3; moths >= 0; moths--) {
            map.removeMoth(0);
        }
        Check.due("54: back to 4 moths", "4 4", () -> map.restoreSnapshot() + " " + map.mothCount());
        Check.due("54: their cells", "11 22 33 44 ", () -> mothsOf(map));
    }

    private static void snapshotIsReplacedAndKept() {
        DustSheetMap map = new DustSheetMap();
        map.saveSnapshot();
        map.setHeight(0, 0, 1);
        map.saveSnapshot();
        map.setHeight(0, 0, 2);
        for (int time = 0; time < 3; time++) {
            map.restoreSnapshot();
            Check.due("54: the later snapshot, each time", 1, () -> map.height(0, 0));
            map.setHeight(0, 0, 3);
        }
        map.undo();
        Check.due("54: undo of a change after it", 1, () -> map.height(0, 0));
        DustSheetMap undone = raised(2);
        undone.saveSnapshot();
        undone.undo();
        undone.undo();
        Check.due("53: undo leaves the snapshot", "50 0 52", () -> undone.height(0, 0) + " " + undone.restoreSnapshot() + " "
                + undone.height(0, 0));
        DustSheetMap refused = new DustSheetMap();
        refused.saveSnapshot();
        Check.due("53: a text that fails leaves the snapshot", DENIED, () -> run(refused, "height 00=1;free 00"));
        Check.due("53: a text that fails leaves the snapshot", "0 50", () -> refused.restoreSnapshot() + " " + refused.height(0, 0));
    }

    private static void noUndoAfterRestoring() {
        for (int changes : new int[] {0, 1, 7, 8, 9, 12}) {
            DustSheetMap map = raised(changes);
            map.saveSnapshot();
            Check.due("53: saving forgets no change", Math.min(changes, 8), () -> map.undoCount());
            map.restoreSnapshot();
            Check.due("54: no change can be undone after " + changes, 0, () -> map.undoCount());
            Check.due("54: no change can be undone after " + changes, BAD_STATE, () -> map.undo());
            map.setHeight(5, 5, 1);
            Check.due("54: a change after it", "1 0 50", () -> map.undoCount() + " " + map.undo() + " " + map.height(5, 5));
            Check.due("54: nothing before it", BAD_STATE, () -> map.undo());
        }
    }

    private static void snapshotOfEverything() {
        DustSheetMap map = busy();
        map.saveSnapshot();
        map.setHeight(0, 0, 3);
        map.peg(0, 0);
        map.unpeg(1, 1);
        map.pour(5, 0, 3);
        map.drape();
        map.settle();
        map.patch(0, 1);
        map.addMoth(0, 0);
        map.passNight();
        makeHole(map, 5, 5);
        map.pour(5, 5, 4);
        map.removeMoth(0);
        map.restoreSnapshot();
        Check.same("54: everything that changes can change", sheetOf(busy()), sheetOf(map));
    }

    private static void snapshotLeavesTexts() {
        DustSheetMap map = withTexts();
        map.saveSnapshot();
        textsStay("saveSnapshot", map);
        DustSheetMap restored = new DustSheetMap();
        restored.saveSnapshot();
        restored.setHeight(0, 0, 1);
        Check.answerOf(() -> run(restored, "drapes"));
        Check.answerOf(() -> run(restored, "night;free 00"));
        restored.writeRow(0);
        feed(restored, "nig");
        restored.restoreSnapshot();
        textsStay("restoreSnapshot", restored);
        Check.due("54: the text goes on", "1 1", () -> run(restored, "t") + " " + restored.nights());
    }
}
