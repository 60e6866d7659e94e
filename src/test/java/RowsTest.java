/** Part 1 of the terms and promises 1 to 7: a new object, sheet, row, put, tear, word, letter. */
public final class RowsTest {
    private static final Check CHECK = new Check("RowsTest");
    private static final int LEAST = Integer.MIN_VALUE;
    private static final int MOST = Integer.MAX_VALUE;

    /** Every call that names a SHEET and a ROW, with nothing else wrong in it. */
    private static void allCallsRefuse(WordBench bench, int sheet, int k) {
        String at = " of sheet " + sheet + ", row " + k;
        CHECK.placeRefused("row" + at, () -> bench.row(sheet, k, 1));
        CHECK.placeRefused("put" + at, () -> bench.put(sheet, k, 0, 1));
        CHECK.placeRefused("tear" + at, () -> bench.tear(sheet, k));
        CHECK.placeRefused("word" + at, () -> bench.word(sheet, k));
        CHECK.placeRefused("letter" + at, () -> bench.letter(sheet, k, 0));
    }

    private static void sheetsAreSixteen() {
        CHECK.says("Terms 1", "SHEETS 0 to 15");
        WordBench bench = new WordBench();
        for (int i = 0; i < 16; i++) {
            int next = i;
            CHECK.placeRefused("word of a sheet that is not there yet", () -> bench.word(next, 0));
            CHECK.due(i, "sheet", () -> bench.sheet(0));
            CHECK.due(0, "word of sheet " + i, () -> bench.word(next, 0));
        }
        Check.fill(bench, 0, 9, "1");
        Check.fill(bench, 15, 9, "72");
        CHECK.holds(bench, 0, 9, "1");
        CHECK.holds(bench, 15, 9, "72");
        for (int sheet : new int[] {-1, 16, LEAST, MOST}) {
            allCallsRefuse(bench, sheet, 0);
        }
    }

    private static void rowsAreTen() {
        CHECK.says("Terms 1", "ROWS 0 to 9");
        WordBench bench = Check.benchWithSheet();
        for (int k = 0; k < 10; k++) {
            Check.fill(bench, 0, k, k % 8, 7);
        }
        for (int k = 0; k < 10; k++) {
            CHECK.holds(bench, 0, k, k % 8 + "7");
        }
        for (int k : new int[] {-1, 10, LEAST, MOST}) {
            allCallsRefuse(bench, 0, k);
        }
    }

    /** What each number becomes in a SHEET of a width: a LETTER, or -1 if the ROW is no WORD then. */
    private static void numbersBecome(int width, int[][] numbers) {
        WordBench bench = new WordBench();
        bench.sheet(width);
        bench.row(0, 0, 2);
        for (int[] number : numbers) {
            CHECK.due(1, "put of " + number[0], () -> bench.put(0, 0, 1, number[0]));
            CHECK.due(number[1], number[0] + " in width " + width, () -> bench.letter(0, 0, 1));
            CHECK.due(number[1] < 0 ? -1 : 2, "word with " + number[0], () -> bench.word(0, 0));
        }
    }

    private static void bytesWrapAround() {
        CHECK.says("Terms 1", "bytes (width 0)");
        numbersBecome(0, new int[][] {{7, 7}, {8, -1}, {127, -1}, {128, -1}, {255, -1}, {256, 0}, {263, 7}, {264, -1},
            {-1, -1}, {-128, -1}, {-129, -1}, {-248, -1}, {-249, 7}, {-256, 0}, {-257, -1}, {32768, 0}, {65536 + 7, 7},
            {LEAST, 0}, {LEAST + 7, 7}, {LEAST + 8, -1}, {MOST, -1}, {MOST - 247, -1}, {MOST - 248, 7}});
    }

    private static void shortsWrapAround() {
        CHECK.says("Terms 1", "shorts (1)");
        numbersBecome(1, new int[][] {{7, 7}, {8, -1}, {255, -1}, {256, -1}, {263, -1}, {32767, -1}, {32768, -1},
            {65535, -1}, {65536, 0}, {65543, 7}, {65544, -1}, {-1, -1}, {-256, -1}, {-32769, -1}, {-65528, -1},
            {-65529, 7}, {-65536, 0}, {-65537, -1}, {LEAST, 0}, {LEAST + 7, 7}, {LEAST + 8, -1}, {MOST, -1}});
    }

    private static void intsDoNotWrapAround() {
        CHECK.says("Terms 1", "ints (2)");
        numbersBecome(2, new int[][] {{0, 0}, {7, 7}, {8, -1}, {-1, -1}, {256, -1}, {263, -1}, {65536, -1}, {65543, -1},
            {-249, -1}, {-65529, -1}, {LEAST, -1}, {LEAST + 7, -1}, {MOST, -1}});
    }

    private static void rowsAreMissingAtFirst() {
        CHECK.says("Terms 1", "missing at first");
        WordBench bench = Check.benchWithSheet();
        for (int i = 0; i < 10; i++) {
            int k = i;
            CHECK.due(-1, "put to new row " + k, () -> bench.put(0, k, 0, 0));
            CHECK.due(-1, "tear of new row " + k, () -> bench.tear(0, k));
        }
    }

    private static void wordsHaveSixtyNumbersAtTheMost() {
        CHECK.says("Terms 1", "A ROW is a WORD, if it has at most 60 numbers");
        WordBench bench = Check.benchWithSheet();
        for (int n : new int[] {0, 1, 59, 60, 61, 62, 79, 80}) {
            bench.row(0, 0, n);
            CHECK.due(n > 60 ? -1 : n, "word of " + n, () -> bench.word(0, 0));
        }
    }

    private static void lettersAreZeroToSeven() {
        CHECK.says("Terms 1", "each a LETTER (0 to 7)");
        for (int width = 0; width < 3; width++) {
            WordBench bench = new WordBench();
            bench.sheet(width);
            for (int place : new int[] {0, 30, 59}) {
                bench.row(0, 0, 60);
                for (int number : new int[] {-2, -1, 0, 1, 6, 7, 8, 9}) {
                    bench.put(0, 0, place, number);
                    boolean letter = number >= 0 && number <= 7;
                    CHECK.due(letter ? 60 : -1, number + " at " + place, () -> bench.word(0, 0));
                    CHECK.due(letter ? number : -1, "letter " + number, () -> bench.letter(0, 0, place));
                }
            }
        }
    }

    private static void aMissingRowIsTheEmptyWord() {
        CHECK.says("Terms 1", "a missing one is the empty WORD");
        WordBench bench = Check.benchWithSheet();
        CHECK.due(0, "word of a row that never was", () -> bench.word(0, 0));
        Check.fill(bench, 0, 0, 8, 9);
        bench.tear(0, 0);
        CHECK.due(0, "word of a torn row", () -> bench.word(0, 0));
        CHECK.due(-1, "its letter 0", () -> bench.letter(0, 0, 0));
    }

    private static void newObjectHasNothing() {
        CHECK.says("Promise 1", "No SHEETS, LAWS, MAPS.");
        WordBench other = Check.benchWithSheet();
        other.law(4, 0, 0);
        Check.fill(other, 0, 0, "00");
        other.map(0, 1, 0, 0);
        other.many(0, 1, 5);
        WordBench bench = new WordBench();
        for (int what : new int[] {0, 1, 2}) {
            CHECK.due(0, "count " + what, () -> bench.count(what));
        }
        allCallsRefuse(bench, 0, 0);
        CHECK.placeRefused("shape", () -> bench.shape(0, 0));
        CHECK.argumentRefused("many by law 0", () -> bench.many(1, 2, 2));
        CHECK.due(1, "many by no law", () -> bench.many(0, 1, 1));
        for (int m : new int[] {0, 1, 2, 3, 4, 5, 6, 7}) {
            CHECK.elementRefused("at of map " + m, () -> bench.at(m, 0, 0));
            CHECK.elementRefused("keeps of map " + m, () -> bench.keeps(m, 0));
            CHECK.elementRefused("image of map " + m, () -> bench.image(m, 0, 0, 0));
        }
    }

    private static void anObjectHas512Calls() {
        CHECK.says("What it is", "An object is used for at most 512 calls after it has been made");
        WordBench bench = Check.benchWithSheet();
        for (int call = 2; call < 510; call++) {
            bench.row(0, call % 10, call % 82);
        }
        CHECK.due(60, "call 510", () -> bench.row(0, 9, 60));
        CHECK.due(1, "call 511", () -> bench.put(0, 9, 59, 7));
        CHECK.due(7, "call 512", () -> bench.letter(0, 9, 59));
    }

    private static void sheetTellsItsNumber() {
        CHECK.says("Promise 2", "A SHEET of a width: its number.");
        WordBench bench = new WordBench();
        for (int width : new int[] {0, 1, 2}) {
            CHECK.due(width, "sheet of width " + width, () -> bench.sheet(width));
            CHECK.due(width + 1, "sheets", () -> bench.count(0));
        }
        CHECK.due(3, "another of width 0", () -> bench.sheet(0));
    }

    private static void otherWidthsAreRefused() {
        CHECK.says("Promise 2", "IllegalArgumentException: no such width");
        WordBench bench = new WordBench();
        for (int width : new int[] {-1, 3, LEAST, MOST}) {
            CHECK.argumentRefused("width " + width, () -> bench.sheet(width));
            CHECK.due(0, "sheets", () -> bench.count(0));
        }
        CHECK.due(0, "the first sheet", () -> bench.sheet(2));
    }

    private static void moreThanSixteenAreRefused() {
        CHECK.says("Promise 2", "IllegalStateException: there are 16");
        WordBench bench = new WordBench();
        for (int i = 0; i < 16; i++) {
            int width = i % 3;
            CHECK.due(i, "sheet", () -> bench.sheet(width));
        }
        for (int width : new int[] {0, 1, 2}) {
            CHECK.stateRefused("one more", () -> bench.sheet(width));
        }
        CHECK.argumentRefused("no such width comes first", () -> bench.sheet(3));
        CHECK.due(16, "sheets", () -> bench.count(0));
    }

    private static void rowComesAllZero() {
        CHECK.says("Promise 3", "A ROW of n numbers, all 0, comes in the place of ROW k: n");
        WordBench bench = Check.benchWithSheet();
        bench.row(0, 3, 80);
        for (int i = 0; i < 80; i++) {
            bench.put(0, 3, i, 9);
        }
        CHECK.due(3, "row of 3", () -> bench.row(0, 3, 3));
        CHECK.holds(bench, 0, 3, "000");
        CHECK.due(60, "row of 60", () -> bench.row(0, 3, 60));
        CHECK.holds(bench, 0, 3, "0".repeat(60));
        bench.tear(0, 3);
        CHECK.due(2, "row for a missing one", () -> bench.row(0, 3, 2));
        CHECK.holds(bench, 0, 3, "00");
    }

    private static void rowsOfNoneAndOfEighty() {
        CHECK.says("Promise 3", "n; -1, doing nothing, if n is below 0 or above 80");
        WordBench bench = Check.benchWithSheet();
        for (int n : new int[] {0, 1, 79, 80}) {
            CHECK.due(n, "row of " + n, () -> bench.row(0, 9, n));
            CHECK.due(n, "how many it has", () -> bench.tear(0, 9));
        }
        Check.fill(bench, 0, 9, "567");
        for (int n : new int[] {-1, 81, LEAST, MOST}) {
            CHECK.due(-1, "row of " + n, () -> bench.row(0, 9, n));
            CHECK.holds(bench, 0, 9, "567");
            CHECK.due(-1, "row of " + n + " for a missing one", () -> bench.row(0, 8, n));
            CHECK.due(-1, "it is missing still", () -> bench.tear(0, 8));
        }
    }

    private static void noSuchSheetOrRow() {
        CHECK.says("Promise 3", "IndexOutOfBoundsException: no such SHEET or ROW (so for all that are told below)");
        WordBench bench = Check.benchWithSheet();
        int[][] wrong = {{-1, 0}, {1, 0}, {15, 0}, {16, 0}, {0, -1}, {0, 10}, {1, 10}, {LEAST, MOST}, {MOST, LEAST}};
        for (int[] place : wrong) {
            allCallsRefuse(bench, place[0], place[1]);
            CHECK.placeRefused("row of 81", () -> bench.row(place[0], place[1], 81));
            CHECK.placeRefused("put to place -1", () -> bench.put(place[0], place[1], -1, 1));
            CHECK.placeRefused("letter -1", () -> bench.letter(place[0], place[1], -1));
        }
    }

    private static void putChangesOnePlace() {
        CHECK.says("Promise 4", "The number at place i of ROW k becomes v (its lowest bits): 1");
        WordBench bench = Check.benchWithSheet();
        bench.sheet(2);
        for (int k = 0; k < 3; k++) {
            Check.fill(bench, 0, k, "123");
        }
        Check.fill(bench, 1, 1, "123");
        CHECK.due(1, "put to the first place", () -> bench.put(0, 1, 0, 7));
        CHECK.due(1, "put to the last place", () -> bench.put(0, 1, 2, 6));
        CHECK.holds(bench, 0, 1, "726");
        CHECK.holds(bench, 0, 0, "123");
        CHECK.holds(bench, 0, 2, "123");
        CHECK.holds(bench, 1, 1, "123");
        CHECK.due(1, "put of no letter", () -> bench.put(0, 1, 1, 8));
        CHECK.due(-1, "word", () -> bench.word(0, 1));
        CHECK.due(1, "put of a letter again", () -> bench.put(0, 1, 1, 5));
        CHECK.holds(bench, 0, 1, "756");
    }

    private static void putToAMissingRow() {
        CHECK.says("Promise 4", "-1: the ROW is missing");
        WordBench bench = Check.benchWithSheet();
        for (int place : new int[] {0, -1, 79, 80}) {
            CHECK.due(-1, "put to place " + place, () -> bench.put(0, 0, place, 1));
        }
        CHECK.due(-1, "it is missing still", () -> bench.tear(0, 0));
    }

    private static void putToNoPlace() {
        CHECK.says("Promise 4", "-2: there is no such place");
        WordBench bench = Check.benchWithSheet();
        for (int n : new int[] {0, 1, 60, 80}) {
            bench.row(0, 0, 1);
            bench.row(0, 2, 1);
            bench.row(0, 1, n);
            for (int place : new int[] {-1, n, LEAST, MOST}) {
                CHECK.due(-2, "put to " + place + " of " + n, () -> bench.put(0, 1, place, 1));
            }
            CHECK.holds(bench, 0, 0, "0");
            CHECK.holds(bench, 0, 2, "0");
            if (n > 0) {
                CHECK.due(1, "put to the first of " + n, () -> bench.put(0, 1, 0, 1));
                CHECK.due(1, "put to the last of " + n, () -> bench.put(0, 1, n - 1, 1));
            }
            CHECK.due(n, "how many it has", () -> bench.tear(0, 1));
        }
    }

    private static void tearMakesARowMissing() {
        CHECK.says("Promise 5", "ROW k is missing again: how many numbers it had");
        WordBench bench = Check.benchWithSheet();
        for (int n : new int[] {0, 1, 60, 61, 80}) {
            bench.row(0, 4, n);
            Check.fill(bench, 0, 5, "3");
            CHECK.due(n, "tear of " + n, () -> bench.tear(0, 4));
            CHECK.due(0, "its word", () -> bench.word(0, 4));
            CHECK.due(-1, "put to it", () -> bench.put(0, 4, 0, 1));
            CHECK.holds(bench, 0, 5, "3");
        }
    }

    private static void tearOfAMissingRow() {
        CHECK.says("Promise 5", "-1: it was");
        WordBench bench = Check.benchWithSheet();
        CHECK.due(-1, "tear of a row that never was", () -> bench.tear(0, 4));
        bench.row(0, 4, 0);
        CHECK.due(0, "tear of a row of none", () -> bench.tear(0, 4));
        CHECK.due(-1, "tear again", () -> bench.tear(0, 4));
    }

    private static void wordTellsHowManyLetters() {
        CHECK.says("Promise 6", "How many letters the WORD of ROW k has; -1: it is none.");
        WordBench bench = Check.benchWithSheet();
        bench.row(0, 0, 0);
        CHECK.due(0, "word of none", () -> bench.word(0, 0));
        Check.fill(bench, 0, 0, "70");
        CHECK.due(2, "word of two", () -> bench.word(0, 0));
        Check.fill(bench, 0, 0, 8);
        CHECK.due(-1, "no letter first", () -> bench.word(0, 0));
        Check.fill(bench, 0, 0, 0, -1);
        CHECK.due(-1, "no letter last", () -> bench.word(0, 0));
        bench.row(0, 0, 61);
        CHECK.due(-1, "a letter too many", () -> bench.word(0, 0));
    }

    private static void letterTellsALetter() {
        CHECK.says("Promise 7", "LETTER i of the WORD of ROW k");
        WordBench bench = Check.benchWithSheet();
        Check.fill(bench, 0, 0, "01234567");
        for (int i : new int[] {0, 1, 2, 3, 4, 5, 6, 7}) {
            CHECK.due(i, "letter " + i, () -> bench.letter(0, 0, i));
        }
        bench.row(0, 0, 60);
        bench.put(0, 0, 59, 7);
        CHECK.due(7, "letter 59", () -> bench.letter(0, 0, 59));
    }

    private static void letterThatIsNotThere() {
        CHECK.says("Promise 7", "-1: there is none, or it is no WORD");
        WordBench bench = Check.benchWithSheet();
        Check.fill(bench, 0, 0, "12");
        Check.fill(bench, 0, 1, "3");
        Check.fill(bench, 0, 2, 1, 8, 1);
        bench.row(0, 3, 61);
        bench.row(0, 4, 0);
        for (int i : new int[] {-1, 2, 3, 59, 60, 80, LEAST, MOST}) {
            CHECK.due(-1, "letter " + i, () -> bench.letter(0, 0, i));
        }
        for (int i : new int[] {-1, 0, 1, 2, 60}) {
            for (int k : new int[] {2, 3, 4, 5}) {
                CHECK.due(-1, "letter " + i + " of row " + k, () -> bench.letter(0, k, i));
            }
        }
    }

    private static void terms() {
        sheetsAreSixteen();
        rowsAreTen();
        bytesWrapAround();
        shortsWrapAround();
        intsDoNotWrapAround();
        rowsAreMissingAtFirst();
        wordsHaveSixtyNumbersAtTheMost();
        lettersAreZeroToSeven();
        aMissingRowIsTheEmptyWord();
    }

    public static void main(String[] args) {
        terms();
        newObjectHasNothing();
        anObjectHas512Calls();
        sheetTellsItsNumber();
        otherWidthsAreRefused();
        moreThanSixteenAreRefused();
        rowComesAllZero();
        rowsOfNoneAndOfEighty();
        noSuchSheetOrRow();
        putChangesOnePlace();
        putToAMissingRow();
        putToNoPlace();
        tearMakesARowMissing();
        tearOfAMissingRow();
        wordTellsHowManyLetters();
        letterTellsALetter();
        letterThatIsNotThere();
        CHECK.end();
    }
}
