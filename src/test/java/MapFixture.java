/** What the tests need again and again: answers by name, maps that are made from pictures, texts, holes. */
abstract class MapFixture {
    static final int LEAST = Integer.MIN_VALUE;
    static final int MOST = Integer.MAX_VALUE;
    static final String NO_INDEX = "throws.IndexOutOfBoundsException";
    static final String BAD_ARGUMENT = "throws.IllegalArgumentException";
    static final String DENIED = "throws.UnsupportedOperationException";
    static final String NO_ELEMENT = "throws.NoSuchElementException";
    static final String BAD_STATE = "throws.IllegalStateException";
    /** So much times 6 wraps around to 2, which a careless product would take for the number of a cell. */
    static final int WRAPS = 715827883;
    /** Rows and columns of which at least one does not exist; some of them would make the number of a cell. */
    static final int[][] NO_CELLS = {
        {-1, 0}, {6, 0}, {0, -1}, {0, 6}, {-1, 5}, {6, 5}, {5, -1}, {5, 6}, {-1, 6}, {1, -6}, {6, -1}, {5, 7},
        {LEAST, 0}, {MOST, 0}, {0, LEAST}, {0, MOST}, {LEAST, MOST}, {MOST, LEAST}, {WRAPS, 0}, {-WRAPS, 5}};

    /** A call that takes a cell. */
    interface CellCall {
        Object run(int row, int column);
    }

    static void noSuchCells(String what, CellCall call) {
        for (int[] cell : NO_CELLS) {
            Check.due(what + "(" + cell[0] + ", " + cell[1] + ")", NO_INDEX, () -> call.run(cell[0], cell[1]));
        }
    }

    /** The same height for each cell. */
    static DustSheetMap level(int height) {
        return mapOf((height + " ").repeat(36));
    }

    /** A map with the heights of a picture: six rows of six numbers. */
    static DustSheetMap mapOf(String picture) {
        DustSheetMap map = new DustSheetMap();
        String[] numbers = picture.trim().split("\\s+");
        for (int i = 0; i < 36; i++) {
            if (Integer.parseInt(numbers[i]) != 50) {
                map.setHeight(i / 6, i % 6, Integer.parseInt(numbers[i]));
            }
        }
        return map;
    }

    static String rowOf(DustSheetMap map, int row) {
        int length = map.writeRow(row);
        return lineOf(map, length);
    }

    static String lineOf(DustSheetMap map, int length) {
        StringBuilder line = new StringBuilder();
        for (int i = 0; i < length; i++) {
            line.append(map.lineCharacter(i));
        }
        return line.toString();
    }

    /** Everything that changes can change, and the output line is left as it was. */
    static String sheetOf(DustSheetMap map) {
        StringBuilder sheet = new StringBuilder();
        for (int cell = 0; cell < 36; cell++) {
            int row = cell / 6;
            int column = cell % 6;
            sheet.append(map.height(row, column)).append(map.isPegged(row, column) ? "^" : "").append('~')
                    .append(map.water(row, column)).append('o').append(map.wear(row, column)).append(' ');
        }
        return sheet.append(mothsOf(map)).append("| ").append(map.nights()).append(' ').append(map.poured())
                .append(' ').append(map.standing()).append(' ').append(map.drained()).toString();
    }

    /** The cells of the moths, each as its row and its column. */
    static String mothsOf(DustSheetMap map) {
        StringBuilder moths = new StringBuilder();
        for (int moth = 0; moth < map.mothCount(); moth++) {
            moths.append(map.mothRow(moth)).append(map.mothColumn(moth)).append(' ');
        }
        return moths.toString();
    }

    /** The number, the detail and the cause of the latest denial, as far as there are such. */
    static String denialOf(DustSheetMap map) {
        return Check.answerOf(() -> map.denial()) + " " + Check.answerOf(() -> map.denialDetail()) + " "
                + Check.answerOf(() -> map.denialCause());
    }

    /** What denialOf tells of a denial that has no cause. */
    static String plain(int number, int detail) {
        return number + " " + detail + " " + NO_ELEMENT;
    }

    static void feed(DustSheetMap map, String text) {
        for (int i = 0; i < text.length(); i++) {
            map.feed(text.charAt(i));
        }
    }

    static Object run(DustSheetMap map, String text) {
        feed(map, text);
        return map.execute();
    }

    /** Wears a cell for some nights: in each, a moth flies to it while it is the highest. */
    static void wearDown(DustSheetMap map, int row, int column, int nights) {
        for (int night = 0; night < nights; night++) {
            int before = map.height(row, column);
            if (before != 99) {
                map.setHeight(row, column, 99);
            }
            int moth = map.addMoth(row == 0 ? 1 : row - 1, column);
            map.passNight();
            map.removeMoth(moth);
            if (before != 99) {
                map.setHeight(row, column, before);
            }
        }
    }

    static void makeHole(DustSheetMap map, int row, int column) {
        wearDown(map, row, column, 3);
    }

    static DustSheetMap withHole(int row, int column) {
        DustSheetMap map = new DustSheetMap();
        makeHole(map, row, column);
        return map;
    }
}
