/** Promises 13 to 16: many, find, rank, longest, with the LOOKS that they take. */
public final class SearchTest {
    private static final Check CHECK = new Check("SearchTest");

    private static WordBench benchAgainstSquares() {
        WordBench bench = Check.benchWithSheet();
        bench.law(1, 2, 1);
        return bench;
    }

    /** LAW 0 a SHAPE that is a square, LAW 1 squares again. */
    private static WordBench benchWithShape() {
        WordBench bench = Check.benchWithSheet();
        Check.fill(bench, 0, 9, 0, 0);
        bench.law(5, 0, 9);
        bench.law(1, 2, 1);
        return bench;
    }

    private static void looks(WordBench bench, int want) {
        CHECK.due(want, "looks", () -> bench.count(2));
    }

    private static void manyCounts() {
        WordBench bench = benchAgainstSquares();
        int[] squareFree = {1, 3, 6, 12, 18, 30, 42, 60, 78, 108, 144, 204, 264, 342, 456, 618};
        for (int n = 0; n < squareFree.length; n++) {
            int letters = n;
            CHECK.due(squareFree[n], "square-free words of " + n, () -> bench.many(1, 3, letters));
        }
        CHECK.due(1, "the empty word", () -> bench.many(1, 8, 0));
        looks(bench, 1);
        CHECK.due(0, "two letters", () -> bench.many(1, 2, 60));
        looks(bench, 15);
        CHECK.due(0, "one letter", () -> bench.many(1, 1, 2));
        looks(bench, 3);
        CHECK.due(1, "one letter, all kept", () -> bench.many(0, 1, 60));
        looks(bench, 61);
    }

    private static void manyIsSpentBeyondTwentyThousandLooks() {
        WordBench bench = benchWithShape();
        CHECK.due(8192, "all words of 13", () -> bench.many(0, 2, 13));
        looks(bench, 16383);
        CHECK.due(-2, "all words of 14", () -> bench.many(0, 2, 14));
        looks(bench, 20000);
        CHECK.due(144, "squares by their shape", () -> bench.many(1, 3, 10));
        looks(bench, 10750);
        CHECK.due(144, "without a shape", () -> bench.many(2, 3, 10));
        looks(bench, 1075);
        CHECK.due(-2, "a shape spends ten", () -> bench.many(3, 3, 13));
        looks(bench, 20000);
        CHECK.due(342, "without it", () -> bench.many(2, 3, 13));
    }

    private static void wrongSearches() {
        WordBench bench = benchAgainstSquares();
        bench.many(1, 2, 1);
        int[][] wrong = {{2, 2, 2}, {-1, 2, 2}, {1, 0, 2}, {1, 9, 2}, {1, 2, -1}, {1, 2, 61}};
        for (int[] call : wrong) {
            CHECK.argumentRefused("many", () -> bench.many(call[0], call[1], call[2]));
            CHECK.argumentRefused("find", () -> bench.find(call[0], call[1], call[2], 0, 0));
            CHECK.argumentRefused("find ahead of no sheet", () -> bench.find(call[0], call[1], call[2], 0, 5));
        }
        for (int i = 0; i < 4; i++) {
            int[] call = wrong[i];
            CHECK.argumentRefused("rank", () -> bench.rank(call[0], call[1], 0, 0));
            CHECK.argumentRefused("rank ahead of no sheet", () -> bench.rank(call[0], call[1], 5, 10));
            CHECK.argumentRefused("longest", () -> bench.longest(call[0], call[1]));
        }
        CHECK.placeRefused("find to no sheet", () -> bench.find(1, 2, 2, 0, 1));
        CHECK.placeRefused("find to no sheet, k below 0", () -> bench.find(1, 2, 2, -1, 1));
        CHECK.placeRefused("rank of no sheet", () -> bench.rank(1, 2, 1, 0));
        CHECK.placeRefused("rank of no row", () -> bench.rank(1, 2, 0, 10));
        looks(bench, 3);
    }

    private static void findBringsTheWord() {
        WordBench bench = benchAgainstSquares();
        CHECK.due(1, "the first", () -> bench.find(1, 3, 4, 0, 0));
        looks(bench, 8);
        CHECK.holds(bench, 0, 0, 0, 1, 0, 2);
        CHECK.due(1, "the last", () -> bench.find(1, 3, 4, 17, 0));
        CHECK.holds(bench, 0, 0, 2, 1, 2, 0);
        CHECK.due(0, "one beyond", () -> bench.find(1, 3, 4, 18, 0));
        looks(bench, 67);
        CHECK.due(0, "far beyond", () -> bench.find(1, 3, 4, Integer.MAX_VALUE, 0));
        CHECK.due(0, "k below 0", () -> bench.find(1, 3, 4, -1, 0));
        CHECK.due(0, "k below 0 of what would be spent", () -> bench.find(0, 8, 60, Integer.MIN_VALUE, 0));
        looks(bench, 67);
        CHECK.due(-2, "spent", () -> bench.find(0, 2, 14, 10000, 0));
        looks(bench, 20000);
        CHECK.holds(bench, 0, 0, 2, 1, 2, 0);
        CHECK.due(1, "far within", () -> bench.find(0, 2, 14, 8191, 0));
        CHECK.due(0, "its first letter", () -> bench.letter(0, 0, 0));
        CHECK.due(1, "its second letter", () -> bench.letter(0, 0, 1));
    }

    private static void findOfTheEmptyWord() {
        WordBench bench = benchAgainstSquares();
        bench.row(0, 0, 70);
        CHECK.due(0, "a second empty word", () -> bench.find(1, 3, 0, 1, 0));
        CHECK.due(70, "the row stays", () -> bench.tear(0, 0));
        CHECK.due(1, "the empty word", () -> bench.find(1, 3, 0, 0, 0));
        looks(bench, 1);
        CHECK.due(0, "a row of none, not a missing one", () -> bench.tear(0, 0));
    }

    private static void findIntoNarrowSheets() {
        WordBench bench = benchAgainstSquares();
        for (int width = 0; width < 2; width++) {
            int to = bench.sheet(width);
            CHECK.due(1, "find", () -> bench.find(0, 8, 2, 63, to));
            CHECK.holds(bench, to, 0, 7, 7);
        }
    }

    private static void rankTellsWhichOne() {
        WordBench bench = benchAgainstSquares();
        for (int k = 0; k < 18; k++) {
            int which = k;
            bench.find(1, 3, 4, which, 0);
            int taken = bench.count(2);
            CHECK.due(which, "rank", () -> bench.rank(1, 3, 0, 0));
            looks(bench, taken);
        }
        CHECK.due(0, "rank of the empty word", () -> bench.rank(1, 3, 0, 5));
        looks(bench, 1);
        Check.fill(bench, 0, 1, 0, 3);
        Check.fill(bench, 0, 2, 0, 1, 0, 1);
        Check.fill(bench, 0, 3, 8);
        Check.fill(bench, 0, 4, 3, 0);
        for (int k = 1; k < 5; k++) {
            int row = k;
            CHECK.due(-1, "no rank for row " + k, () -> bench.rank(1, 3, 0, row));
        }
        looks(bench, 1);
        CHECK.due(3, "with more letters", () -> bench.rank(0, 4, 0, 1));
        Check.fill(bench, 0, 4, 7, 7, 7, 7, 7);
        CHECK.due(-2, "spent", () -> bench.rank(0, 8, 0, 4));
        looks(bench, 20000);
    }

    private static void longestTellsWhenTheyEnd() {
        WordBench bench = benchAgainstSquares();
        bench.law(4, 0, 0);
        bench.law(2, 7, 4);
        Check.fill(bench, 0, 1, 2);
        bench.law(5, 0, 1);
        CHECK.due(3, "squares, two letters", () -> bench.longest(1, 2));
        looks(bench, 15);
        CHECK.due(7, "turned, three letters", () -> bench.longest(2, 3));
        CHECK.due(WordBench.NONE, "squares, three letters", () -> bench.longest(1, 3));
        CHECK.due(WordBench.NONE, "all, one letter", () -> bench.longest(0, 1));
        looks(bench, 61);
        bench.row(0, 1, 60);
        bench.law(0, 0, 1);
        CHECK.due(59, "one letter but not sixty times", () -> bench.longest(16, 1));
        looks(bench, 61);
        CHECK.due(0, "every letter barred", () -> bench.longest(8, 8));
        looks(bench, 90);
        CHECK.due(WordBench.NONE, "above 7/4, three letters", () -> bench.longest(4, 3));
    }

    private static void longestIsSpent() {
        WordBench bench = benchWithShape();
        bench.law(1, 7, 4);
        bench.law(3, 2, 0);
        CHECK.due(38, "7/4, three letters", () -> bench.longest(4, 3));
        looks(bench, 9589);
        CHECK.due(-2, "the same with a shape", () -> bench.longest(5, 3));
        looks(bench, 20000);
        CHECK.due(-2, "near 2, five letters", () -> bench.longest(8, 5));
        looks(bench, 20000);
    }

    public static void main(String[] args) {
        manyCounts();
        manyIsSpentBeyondTwentyThousandLooks();
        wrongSearches();
        findBringsTheWord();
        findOfTheEmptyWord();
        findIntoNarrowSheets();
        rankTellsWhichOne();
        longestTellsWhenTheyEnd();
        longestIsSpent();
        CHECK.end();
    }
}
