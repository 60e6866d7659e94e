/** Promises 1 to 7: a new object, sheet, row, put, tear, word, letter. */
public final class RowsTest {
    private static final Check CHECK = new Check("RowsTest");

    private static void newObjectHasNothing() {
        WordBench bench = new WordBench();
        for (int what = 0; what < 3; what++) {
            int asked = what;
            CHECK.due(0, "count of a new object", () -> bench.count(asked));
        }
        CHECK.placeRefused("row without sheets", () -> bench.row(0, 0, 1));
        CHECK.placeRefused("shape without laws", () -> bench.shape(0, 0));
        CHECK.argumentRefused("many by a law that is not there", () -> bench.many(1, 2, 2));
        CHECK.elementRefused("at without maps", () -> bench.at(0, 0, 0));
    }

    private static void sheetsAreNumberedUpToSixteen() {
        WordBench bench = new WordBench();
        CHECK.argumentRefused("width -1", () -> bench.sheet(-1));
        CHECK.argumentRefused("width 3", () -> bench.sheet(3));
        for (int i = 0; i < 16; i++) {
            int width = i % 3;
            CHECK.due(i, "a sheet's number", () -> bench.sheet(width));
        }
        CHECK.refused(IllegalStateException.class, "sheet 17", () -> bench.sheet(0));
        CHECK.argumentRefused("no width ahead of 16 sheets", () -> bench.sheet(3));
        CHECK.due(16, "sheets", () -> bench.count(0));
        CHECK.due(0, "row 9 of sheet 15", () -> bench.word(15, 9));
    }

    private static void rowComesAnewAllZero() {
        WordBench bench = Check.benchWithSheet();
        Check.fill(bench, 0, 3, 5, 6, 7);
        CHECK.due(4, "row", () -> bench.row(0, 3, 4));
        CHECK.holds(bench, 0, 3, 0, 0, 0, 0);
        Check.fill(bench, 0, 3, 5, 6, 7);
        CHECK.due(-1, "row of -1", () -> bench.row(0, 3, -1));
        CHECK.due(-1, "row of 81", () -> bench.row(0, 3, 81));
        CHECK.holds(bench, 0, 3, 5, 6, 7);
        CHECK.due(80, "row of 80", () -> bench.row(0, 9, 80));
        CHECK.due(0, "row of 0", () -> bench.row(0, 3, 0));
        CHECK.due(0, "tear of a row of 0", () -> bench.tear(0, 3));
    }

    private static void rowsDoNotTouchEachOther() {
        WordBench bench = Check.benchWithSheet();
        bench.sheet(2);
        Check.fill(bench, 0, 1, 1, 2);
        bench.row(0, 0, 80);
        bench.put(0, 0, 79, 7);
        CHECK.holds(bench, 0, 1, 1, 2);
        CHECK.due(0, "the same row of another sheet", () -> bench.word(1, 1));
    }

    private static void putKeepsTheLowestBits() {
        WordBench bench = new WordBench();
        int[] over = {256 + 3, 65536 + 3, 3};
        int[] under = {128, 32768, Integer.MIN_VALUE};
        for (int width = 0; width < 3; width++) {
            int sheet = bench.sheet(width);
            bench.row(sheet, 0, 2);
            int more = over[width];
            int less = under[width];
            CHECK.due(1, "put", () -> bench.put(sheet, 0, 1, more));
            CHECK.holds(bench, sheet, 0, 0, 3);
            CHECK.due(1, "put of a number below 0", () -> bench.put(sheet, 0, 1, less));
            CHECK.due(-1, "word with a number below 0", () -> bench.word(sheet, 0));
            CHECK.due(1, "put of -1", () -> bench.put(sheet, 0, 1, -1));
            CHECK.due(-1, "word with -1", () -> bench.word(sheet, 0));
        }
        CHECK.due(1, "put of more than a byte into shorts", () -> bench.put(1, 0, 1, 259));
        CHECK.due(-1, "word of shorts", () -> bench.word(1, 0));
        CHECK.due(1, "put of more than a short into ints", () -> bench.put(2, 0, 1, 65539));
        CHECK.due(-1, "word of ints", () -> bench.word(2, 0));
    }

    private static void putTellsWhatIsNotThere() {
        WordBench bench = Check.benchWithSheet();
        CHECK.due(-1, "put to a missing row", () -> bench.put(0, 0, 0, 1));
        CHECK.due(-1, "put to no place of a missing row", () -> bench.put(0, 0, -1, 1));
        bench.row(0, 0, 2);
        CHECK.due(-2, "put to place -1", () -> bench.put(0, 0, -1, 1));
        CHECK.due(-2, "put to place 2", () -> bench.put(0, 0, 2, 1));
        CHECK.due(1, "put to the last place", () -> bench.put(0, 0, 1, 1));
        bench.row(0, 1, 0);
        CHECK.due(-2, "put to a row of 0", () -> bench.put(0, 1, 0, 1));
    }

    private static void tearTakesARowAway() {
        WordBench bench = Check.benchWithSheet();
        CHECK.due(-1, "tear of a missing row", () -> bench.tear(0, 4));
        bench.row(0, 4, 70);
        CHECK.due(-1, "word of 70", () -> bench.word(0, 4));
        CHECK.due(70, "tear", () -> bench.tear(0, 4));
        CHECK.due(0, "word of a torn row", () -> bench.word(0, 4));
        CHECK.due(-1, "put to a torn row", () -> bench.put(0, 4, 0, 1));
        CHECK.due(-1, "tear again", () -> bench.tear(0, 4));
    }

    private static void wordsHaveSixtyLettersBelowEight() {
        WordBench bench = Check.benchWithSheet();
        bench.row(0, 0, 60);
        CHECK.due(60, "word of 60", () -> bench.word(0, 0));
        CHECK.due(0, "letter 59", () -> bench.letter(0, 0, 59));
        CHECK.due(-1, "letter 60", () -> bench.letter(0, 0, 60));
        CHECK.due(-1, "letter -1", () -> bench.letter(0, 0, -1));
        bench.put(0, 0, 59, 7);
        CHECK.due(7, "letter 7", () -> bench.letter(0, 0, 59));
        bench.put(0, 0, 59, 8);
        CHECK.due(-1, "word with 8", () -> bench.word(0, 0));
        CHECK.due(-1, "letter of no word", () -> bench.letter(0, 0, 0));
        bench.row(0, 0, 61);
        CHECK.due(-1, "word of 61", () -> bench.word(0, 0));
        CHECK.due(-1, "letter of a row of 61", () -> bench.letter(0, 0, 0));
        CHECK.due(-1, "letter of a missing row", () -> bench.letter(0, 1, 0));
    }

    private static void noSuchSheetOrRow() {
        WordBench bench = Check.benchWithSheet();
        int[][] wrong = {{-1, 0}, {1, 0}, {16, 0}, {0, -1}, {0, 10}, {Integer.MIN_VALUE, Integer.MAX_VALUE}};
        for (int[] place : wrong) {
            int sheet = place[0];
            int k = place[1];
            CHECK.placeRefused("row", () -> bench.row(sheet, k, 81));
            CHECK.placeRefused("put", () -> bench.put(sheet, k, 0, 1));
            CHECK.placeRefused("tear", () -> bench.tear(sheet, k));
            CHECK.placeRefused("word", () -> bench.word(sheet, k));
            CHECK.placeRefused("letter", () -> bench.letter(sheet, k, 0));
        }
    }

    public static void main(String[] args) {
        newObjectHasNothing();
        sheetsAreNumberedUpToSixteen();
        rowComesAnewAllZero();
        rowsDoNotTouchEachOther();
        putKeepsTheLowestBits();
        putTellsWhatIsNotThere();
        tearTakesARowAway();
        wordsHaveSixtyLettersBelowEight();
        noSuchSheetOrRow();
        CHECK.end();
    }
}
