import java.util.ArrayList;
import java.util.List;

/** The boundary cases of promises 43 to 47: the text buffer, texts, fault positions and output lines. */
public final class BoundaryTextsTest extends MapFixture {
    /** Each command with the least and the greatest digits that the grammar allows, and texts of several. */
    private static final String[] TEXTS = {
        "height 00=0", "height 99=9", "height 55=00", "height 09=99", "peg 00", "peg 99", "free 00", "free 99", "drape",
        "pour 00 0", "pour 99 9", "pour 55 00", "pour 90 99", "settle", "moth 00", "moth 99", "swat 0", "swat 9", "night",
        "patch 00", "patch 99", "drape;night", "height 12=3;pour 45 6;settle", "swat 3;patch 23;peg 12;free 21;moth 45",
        "night;night;night;night;night;night;night;night;night;drape"};
    /** A text of 60 characters. */
    private static final String FULL = "height 00=12;night;night;night;night;night;night;night;night";

    public static void main(String[] args) {
        bufferEmptyAndFull();
        anyCharacter();
        feedIsNoChange();
        emptyText();
        fullText();
        fewAndManyCommands();
        numbersInTexts();
        cellsAndIndicesInTexts();
        commandsSeeEarlierOnes();
        allOrNone();
        bufferAfterwards();
        grammarAheadOfDenial();
        textsThatEndTooEarly();
        wrongCharacters();
        wrongDigits();
        spaces();
        separators();
        sharedBeginnings();
        whichFaultIsKept();
        rowsThatExist();
        shortestAndLongestLines();
        signs();
        lineCharacters();
        Check.end();
    }

    private static void bufferEmptyAndFull() {
        DustSheetMap map = new DustSheetMap();
        for (int i = 0; i < 60; i++) {
            char character = FULL.charAt(i);
            Check.due("43: the length afterwards", i + 1, () -> map.feed(character));
        }
        Check.due("43: the buffer has 60 characters", BAD_STATE, () -> map.feed(';'));
        Check.due("43: it still has them", BAD_STATE, () -> map.feed('t'));
        Check.due("43: what was refused is not in the text", "9 12 8", () -> map.execute() + " " + map.height(0, 0) + " " + map.nights());
        Check.due("43: the buffer is empty again", 1, () -> map.feed('x'));
        Check.due("43: one character less than full", 60, () -> {
            feed(map, "x".repeat(58));
            return map.feed('x');
        });
        Check.due("43: full again", BAD_STATE, () -> map.feed('x'));
    }

    private static void anyCharacter() {
        int[] signs = {0, 1, 31, 32, 127, 128, 160, 255, 256, 256 + 'n', 0x0660, 0xD800, 0xDC00, 0xFF10, 0xFFFF};
        for (int sign : signs) {
            DustSheetMap map = new DustSheetMap();
            Check.due("43: character " + sign, 1, () -> map.feed((char) sign));
            Check.due("44: character " + sign, BAD_ARGUMENT, () -> map.execute());
            Check.due("45: character " + sign, 0, () -> map.faultPosition());
            faultIs("peg 1" + (char) sign, 5);
            faultIs("swat " + (char) sign, 5);
            faultIs("night" + (char) sign, 5);
        }
    }

    private static void feedIsNoChange() {
        DustSheetMap map = new DustSheetMap();
        feed(map, "nig");
        Check.due("43: feeding is no change", 0, () -> map.undoCount());
        Check.due("43: nothing to undo", BAD_STATE, () -> map.undo());
        Check.due("43: the characters are there", "1 1", () -> run(map, "ht") + " " + map.nights());
    }

    private static void emptyText() {
        DustSheetMap map = new DustSheetMap();
        Check.due("44: the empty buffer", BAD_ARGUMENT, () -> map.execute());
        Check.due("45: the empty buffer", 0, () -> map.faultPosition());
        Check.due("44: the empty buffer is no change", 0, () -> map.undoCount());
        Check.due("44: no denial", NO_ELEMENT, () -> map.denial());
        run(map, "night");
        Check.due("44: emptied by a text", BAD_ARGUMENT, () -> map.execute());
        Check.due("44: emptied by an exception", BAD_ARGUMENT, () -> map.execute());
    }

    private static void fullText() {
        DustSheetMap map = new DustSheetMap();
        Check.same("44: a text of 60 characters", "60", "" + FULL.length());
        Check.due("44: a text of 60 characters", 9, () -> run(map, FULL));
        Check.due("44: it is executed", "12 8 1", () -> map.height(0, 0) + " " + map.nights() + " " + map.undoCount());
        faultIs("night;".repeat(10), 60);
        faultIs("night;".repeat(9) + "height", 60);
        faultIs("night;".repeat(9) + "drapes", 59);
        faultIs("x".repeat(60), 0);
    }

    private static void fewAndManyCommands() {
        DustSheetMap map = new DustSheetMap();
        String[] single = {"height 11=0", "peg 11", "free 11", "drape", "pour 11 1", "settle", "moth 11", "night", "swat 0", "patch 12"};
        for (int i = 0; i < single.length; i++) {
            String text = single[i];
            Check.due("44: one command, " + text, 1, () -> run(map, text));
            Check.due("44: one change, " + text, Math.min(i + 1, 8), () -> map.undoCount());
        }
        DustSheetMap many = new DustSheetMap();
        Check.due("44: ten commands", 10, () -> run(many, "night;".repeat(9) + "night"));
        Check.due("44: all are executed, as one change", "10 1", () -> many.nights() + " " + many.undoCount());
        Check.due("44: undone as one", "0 0", () -> many.undo() + " " + many.nights());
    }

    private static void numbersInTexts() {
        DustSheetMap map = new DustSheetMap();
        String[][] heights = {{"0", "0"}, {"9", "9"}, {"00", "0"}, {"09", "9"}, {"10", "10"}, {"99", "99"}, {"01", "1"}};
        for (String[] height : heights) {
            Check.due("44: height " + height[0], "1 " + height[1], () -> run(map, "height 34=" + height[0]) + " " + map.height(3, 4));
        }
        faultIs("height 34=100", 12);
        faultIs("height 34=000", 12);
        faultIs("height 34=-1", 10);
        String[][] units = {{"1", "1"}, {"01", "2"}, {"9", "11"}, {"10", "21"}, {"99", "120"}};
        for (String[] unit : units) {
            Check.due("44: pour " + unit[0], "1 " + unit[1], () -> run(map, "pour 55 " + unit[0]) + " " + map.water(5, 5));
        }
        failsAt("pour 55 0", 0, 8);
        failsAt("pour 55 00", 0, 8);
        faultIs("pour 55 100", 10);
    }

    private static void cellsAndIndicesInTexts() {
        DustSheetMap map = new DustSheetMap();
        Check.due("44: the least and the greatest digits", 4, () -> run(map, "peg 00;peg 05;peg 50;peg 55"));
        Check.due("44: the row ahead of the column", 2, () -> run(map, "height 14=8;moth 14"));
        Check.due("44: the row ahead of the column", "8 50 14 ", () -> map.height(1, 4) + " " + map.height(4, 1) + " " + mothsOf(map));
        DustSheetMap turned = new DustSheetMap();
        wearDown(turned, 1, 4, 1);
        Check.due("44: the row ahead of the column", "1 true false", () -> run(turned, "peg 14") + " " + turned.isPegged(1, 4)
                + " " + turned.isPegged(4, 1));
        Check.due("44: the row ahead of the column", "1 false", () -> run(turned, "free 14") + " " + turned.isPegged(1, 4));
        Check.due("44: the row ahead of the column", "1 3 0", () -> run(turned, "pour 14 3") + " " + turned.water(1, 4)
                + " " + turned.water(4, 1));
        Check.due("44: the row ahead of the column", "1 0", () -> run(turned, "patch 14") + " " + turned.wear(1, 4));
        for (String cell : new String[] {"06", "60", "66", "09", "90", "99"}) {
            for (String text : new String[] {"height " + cell + "=1", "peg " + cell, "free " + cell, "pour " + cell + " 1",
                "moth " + cell, "patch " + cell}) {
                failsAt(text, 0, 8);
            }
        }
        for (int index = 0; index <= 9; index++) {
            DustSheetMap four = new DustSheetMap();
            run(four, "moth 00;moth 01;moth 02;moth 03");
            String text = "swat " + index;
            Check.due("44: four moths, " + text, index < 4 ? (Object) 1 : DENIED, () -> run(four, text));
            Check.due("44: moths after " + text, index < 4 ? 3 : 4, () -> four.mothCount());
        }
        failsAt("swat 0", 0, 8);
    }

    private static void commandsSeeEarlierOnes() {
        DustSheetMap map = new DustSheetMap();
        Check.due("44: in their order", 4, () -> run(map, "height 00=1;height 00=2;peg 00;free 00"));
        Check.due("44: in their order", "2 false", () -> map.height(0, 0) + " " + map.isPegged(0, 0));
        Check.due("44: back to the present height", 2, () -> run(map, "height 00=3;height 00=2"));
        failsAt("peg 00;free 00;free 00", 2, 2);
        failsAt("moth 00;swat 0;swat 0", 2, 8);
    }

    /** A text on a new object that fails by a command, with a cause; nothing of it is executed. */
    private static void failsAt(String text, int command, int cause) {
        DustSheetMap map = new DustSheetMap();
        Check.due("44: " + text, DENIED, () -> run(map, text));
        Check.same("44: denial 7 of " + text, "7 " + command + " " + cause, denialOf(map));
        Check.due("44: no fault position by " + text, NO_ELEMENT, () -> map.faultPosition());
        Check.due("44: no change by " + text, 0, () -> map.undoCount());
        Check.same("44: none of " + text, sheetOf(new DustSheetMap()), sheetOf(map));
        Check.due("44: the buffer is empty after " + text, 1, () -> map.feed('x'));
    }

    private static void allOrNone() {
        failsAt("height 00=50", 0, 6);
        failsAt("height 00=51;height 01=50;height 02=50", 1, 6);
        failsAt("night;night;night;night;night;night;night;night;night;peg 66", 9, 8);
        failsAt("pour 00 9;pour 11 9;settle;drape;peg 00;peg 00", 5, 2);
        failsAt("moth 00;night;patch 01", 2, 5);
        failsAt("moth 00;night;swat 0;patch 01;patch 01", 4, 4);
        failsAt("moth 00;moth 01;moth 02;moth 03;moth 03", 4, 1);
        failsAt("moth 00;moth 11;moth 11;swat 9", 2, 5);
        DustSheetMap map = new DustSheetMap();
        makeHole(map, 3, 3);
        map.pour(3, 3, 5);
        map.addMoth(0, 0);
        String before = sheetOf(map);
        int changes = map.undoCount();
        Check.due("44: none of the commands", DENIED, () -> run(map, "night;pour 33 9;swat 0;patch 33;moth 33;moth 33"));
        Check.same("44: the last command failed", "7 5 5", denialOf(map));
        Check.same("44: none of the commands", before, sheetOf(map));
        Check.due("44: no change", changes, () -> map.undoCount());
        Check.due("44: a hole", DENIED, () -> run(map, "drape;moth 33"));
        Check.same("44: the cause is denial 3", "7 1 3", denialOf(map));
    }

    private static void bufferAfterwards() {
        DustSheetMap map = new DustSheetMap();
        run(map, "night");
        Check.due("44: empty after a text", 1, () -> map.feed('x'));
        Check.due("44: a wrong text", BAD_ARGUMENT, () -> map.execute());
        Check.due("44: empty after a wrong text", 1, () -> map.feed('n'));
        Check.due("44: what was fed before is gone", "1 2", () -> run(map, "ight") + " " + map.nights());
        Check.due("44: a text that fails", DENIED, () -> run(map, "free 00"));
        Check.due("44: empty after a text that fails", 1, () -> map.feed('n'));
        Check.due("44: what was fed before is gone", "1 3", () -> run(map, "ight") + " " + map.nights());
        Check.due("44: a shorter text after a longer one", "1 4", () -> {
            Check.answerOf(() -> run(map, "drape;drape;free 00"));
            return run(map, "night") + " " + map.nights();
        });
    }

    private static void grammarAheadOfDenial() {
        for (String text : new String[] {"free 00;x", "swat 0;", "height 00=50;height 00=500", "peg 99;peg", "pour 00 0;pour 00 000"}) {
            DustSheetMap map = new DustSheetMap();
            Check.due("44: the grammar ahead of a denial, " + text, BAD_ARGUMENT, () -> run(map, text));
            Check.due("44: no denial by " + text, NO_ELEMENT, () -> map.denial());
        }
        DustSheetMap map = new DustSheetMap();
        Check.due("44: a fault behind good commands", BAD_ARGUMENT, () -> run(map, "night;peg 00;pour 00 5;drapes"));
        Check.same("44: none is executed", sheetOf(new DustSheetMap()), sheetOf(map));
        Check.due("44: no change", 0, () -> map.undoCount());
    }

    private static void faultIs(String text, int position) {
        DustSheetMap map = new DustSheetMap();
        Check.due("44: wrong text " + text, BAD_ARGUMENT, () -> run(map, text));
        Check.due("45: fault position of " + text, position, () -> map.faultPosition());
        Check.due("44: the buffer is empty after " + text, 1, () -> map.feed('x'));
        Check.due("44: no change by " + text, "0 0", () -> map.undoCount() + " " + map.nights());
    }

    /** Whether a text is whole already, so that it may end here. */
    private static boolean isWhole(String text) {
        List<String> parts = new ArrayList<>(List.of(text.split(";", -1)));
        String cell = "[0-9][0-9]";
        for (String part : parts) {
            if (!part.matches("height " + cell + "=[0-9][0-9]?|(peg|free|moth|patch) " + cell + "|pour " + cell
                    + " [0-9][0-9]?|swat [0-9]|drape|settle|night")) {
                return false;
            }
        }
        return true;
    }

    private static void textsThatEndTooEarly() {
        for (String text : TEXTS) {
            for (int length = 0; length < text.length(); length++) {
                String begin = text.substring(0, length);
                if (!isWhole(begin)) {
                    faultIs(begin, length);
                }
            }
            if (text.length() < 60) {
                faultIs(text + ";", text.length() + 1);
            }
        }
    }

    private static void wrongCharacters() {
        for (String text : TEXTS) {
            for (int place = 0; place <= text.length() && place < 60; place++) {
                faultIs(text.substring(0, place) + "!", place);
                if (place < text.length() - 1) {
                    faultIs(text.substring(0, place) + "!" + text.substring(place + 1), place);
                }
                if (place < text.length() && Character.isLetter(text.charAt(place))) {
                    faultIs(text.substring(0, place) + Character.toUpperCase(text.charAt(place)), place);
                }
            }
        }
    }

    private static void wrongDigits() {
        for (char wrong : new char[] {'/', ':', '-', 'a', '\u0660', '\uff10'}) {
            faultIs("peg " + wrong + "0", 4);
            faultIs("peg 0" + wrong, 5);
            faultIs("swat " + wrong, 5);
            faultIs("height 00=" + wrong, 10);
            faultIs("height 00=1" + wrong, 11);
            faultIs("height 00=11" + wrong, 12);
            faultIs("pour 00 " + wrong, 8);
            faultIs("pour 00 1" + wrong, 9);
        }
        faultIs("swat 00", 6);
        faultIs("peg 000", 6);
        faultIs("moth 000", 7);
    }

    private static void spaces() {
        faultIs(" night", 0);
        faultIs("night ", 5);
        faultIs("night ;night", 5);
        faultIs("night; night", 6);
        faultIs("peg  00", 4);
        faultIs("peg00", 3);
        faultIs("peg\t00", 3);
        faultIs("peg\u00a000", 3);
        faultIs("peg 0 0", 5);
        faultIs("pour 00  1", 8);
        faultIs("pour 001", 7);
        faultIs("height 00 =1", 9);
        faultIs("height 00= 1", 10);
        faultIs("drape 00", 5);
    }

    private static void separators() {
        faultIs(";", 0);
        faultIs(";night", 0);
        faultIs("night;;night", 6);
        faultIs("night,night", 5);
        faultIs("nightnight", 5);
        faultIs("night\nnight", 5);
        faultIs("night;", 6);
        faultIs("height 00=1;2", 12);
        faultIs("height 00=12;3", 13);
    }

    private static void sharedBeginnings() {
        faultIs("p", 1);
        faultIs("pa", 2);
        faultIs("pe", 2);
        faultIs("po", 2);
        faultIs("pi", 1);
        faultIs("pet", 2);
        faultIs("pot", 2);
        faultIs("pat 00", 3);
        faultIs("pouch 00", 3);
        faultIs("s", 1);
        faultIs("se", 2);
        faultIs("sw", 2);
        faultIs("so", 1);
        faultIs("swt", 2);
        faultIs("sat 0", 1);
        faultIs("unpeg 00", 0);
        faultIs("night;pe", 8);
        faultIs("night;px", 7);
    }

    private static void whichFaultIsKept() {
        DustSheetMap map = new DustSheetMap();
        Check.due("45: none kept yet", NO_ELEMENT, () -> map.faultPosition());
        run(map, "night");
        Check.due("45: none kept by a text", NO_ELEMENT, () -> map.faultPosition());
        Check.due("45: a text that fails", DENIED, () -> run(map, "night;free 00"));
        Check.due("45: none kept by a text that fails", NO_ELEMENT, () -> map.faultPosition());
        Check.due("45: a wrong text", BAD_ARGUMENT, () -> run(map, "nights"));
        Check.due("45: asked twice", "5 5", () -> map.faultPosition() + " " + map.faultPosition());
        run(map, "night");
        Check.due("45: kept by a text", 5, () -> map.faultPosition());
        Check.due("45: a text that fails", DENIED, () -> run(map, "night;free 00"));
        Check.due("45: kept by a text that fails", 5, () -> map.faultPosition());
        map.saveSnapshot();
        map.undo();
        map.restoreSnapshot();
        Check.due("45: kept by undo and snapshots", 5, () -> map.faultPosition());
        Check.due("45: a wrong text", BAD_ARGUMENT, () -> run(map, "nix"));
        Check.due("45: the last one", 2, () -> map.faultPosition());
        Check.due("45: the empty text", BAD_ARGUMENT, () -> map.execute());
        Check.due("45: the last one", 0, () -> map.faultPosition());
    }

    private static void rowsThatExist() {
        DustSheetMap map = new DustSheetMap();
        map.setHeight(0, 0, 1);
        map.setHeight(5, 5, 2);
        Check.due("46: the least row", "1 50 50 50 50 50", () -> rowOf(map, 0));
        Check.due("46: the greatest row", "50 50 50 50 50 2", () -> rowOf(map, 5));
        for (int row : new int[] {-1, 6, LEAST, MOST, WRAPS, -WRAPS, 256, 65536}) {
            Check.due("46: row " + row, NO_INDEX, () -> map.writeRow(row));
        }
        Check.due("46: refused, the line stays", "50 50 50 50 50 2", () -> lineOf(map, 16));
        DustSheetMap none = new DustSheetMap();
        Check.due("46: refused", NO_INDEX, () -> none.writeRow(6));
        Check.due("46: refused, the line stays empty", NO_INDEX, () -> none.lineCharacter(0));
        Check.due("46: writing is no change", 2, () -> map.undoCount());
    }

    private static void shortestAndLongestLines() {
        DustSheetMap flat = level(0);
        Check.due("46: the shortest line", "11 0 0 0 0 0 0", () -> flat.writeRow(3) + " " + lineOf(flat, 11));
        flat.setHeight(3, 0, 9);
        flat.setHeight(3, 5, 10);
        Check.due("46: one and two digits", "12 9 0 0 0 0 10", () -> flat.writeRow(3) + " " + lineOf(flat, 12));
        DustSheetMap map = new DustSheetMap();
        for (int column = 0; column < 6; column++) {
            map.pour(0, column, 1);
            map.peg(0, column);
            wearDown(map, 0, column, column < 4 ? 2 : 3);
        }
        for (int column = 0; column < 6; column++) {
            map.setHeight(0, column, 99);
        }
        for (int column = 0; column < 4; column++) {
            map.addMoth(1, column);
        }
        map.passNight();
        String longest = "99^~om 99^~om 99^~om 99^~om 99^~o 99^~o";
        Check.due("46: the longest line", longest.length(), () -> map.writeRow(0));
        Check.due("46: the longest line", longest, () -> lineOf(map, longest.length()));
        Check.due("47: the last index of the longest line", "o", () -> map.lineCharacter(longest.length() - 1));
        Check.due("47: behind the longest line", NO_INDEX, () -> map.lineCharacter(longest.length()));
        Check.due("46: a shorter line replaces a longer one", "17 50 50 50 50 50 50", () -> map.writeRow(5) + " " + lineOf(map, 17));
        Check.due("47: behind the shorter line", NO_INDEX, () -> map.lineCharacter(17));
    }

    private static void signs() {
        DustSheetMap map = new DustSheetMap();
        makeHole(map, 4, 4);
        map.setHeight(4, 1, 7);
        map.peg(4, 1);
        map.setHeight(4, 2, 0);
        map.pour(4, 2, 1);
        map.addMoth(4, 2);
        map.setHeight(4, 5, 99);
        Check.due("46: the example", "19 50 7^ 0~m 50 50o 99", () -> map.writeRow(4) + " " + lineOf(map, 19));
        map.setHeight(4, 4, 98);
        map.pour(4, 4, 9);
        Check.due("46: no water where it drains", "50 7^ 0~m 50 98o 99", () -> rowOf(map, 4));
        map.patch(4, 4);
        map.unpeg(4, 1);
        map.removeMoth(0);
        map.setHeight(4, 3, 49);
        Check.due("46: no signs any more", "50 7 0~ 49 98 99", () -> rowOf(map, 4));
        DustSheetMap worn = new DustSheetMap();
        wearDown(worn, 4, 4, 2);
        Check.due("46: wear 2 is no hole", "50 50 50 50 50 50", () -> rowOf(worn, 4));
        DustSheetMap wet = new DustSheetMap();
        wet.pour(0, 0, 99);
        wet.pour(0, 5, 1);
        Check.due("46: one unit is water, and so are 99", "50~ 50 50 50 50 50~", () -> rowOf(wet, 0));
        Check.due("46: not in another row", "50 50 50 50 50 50", () -> rowOf(wet, 1));
    }

    private static void lineCharacters() {
        DustSheetMap map = new DustSheetMap();
        for (int index : new int[] {-1, 0, 1, LEAST, MOST}) {
            Check.due("47: the line is initially empty, index " + index, NO_INDEX, () -> map.lineCharacter(index));
        }
        map.setHeight(2, 0, 1);
        map.setHeight(2, 5, 9);
        int length = map.writeRow(2);
        Check.same("47: the length", "15", "" + length);
        Check.due("47: the least index", "1", () -> map.lineCharacter(0));
        Check.due("47: the greatest index", "9", () -> map.lineCharacter(length - 1));
        for (int index : new int[] {-1, length, length + 1, LEAST, MOST, 65536, 256}) {
            Check.due("47: index " + index, NO_INDEX, () -> map.lineCharacter(index));
        }
        map.setHeight(2, 0, 77);
        Check.due("47: the line is what was written", "1", () -> map.lineCharacter(0));
        map.undo();
        Check.due("47: undo leaves the line", "1", () -> map.lineCharacter(0));
    }
}
