/** Promises 8, 9 and 12: law, count, clash. */
public final class LawsTest {
    private static final Check CHECK = new Check("LawsTest");

    private static void numbersOutsideAreRefused() {
        WordBench bench = Check.benchWithSheet();
        int[][] wrong = {{-1, 0, 0}, {6, 0, 0}, {1, 2, 2}, {1, 1, 2}, {1, 31, 1}, {1, 2, 0}, {1, 2, -1},
            {1, 0, -5}, {2, 1, 2}, {2, 31, 30}, {2, 0, 0}, {2, 31, 31}, {3, -1, 0}, {3, 10, 0}, {3, 1, 1}, {3, 1, -1},
            {4, 1, 0}, {4, 0, 1}, {4, -1, 0}};
        for (int[] law : wrong) {
            CHECK.argumentRefused("law of kind " + law[0], () -> bench.law(law[0], law[1], law[2]));
        }
        CHECK.due(0, "laws", () -> bench.count(1));
        int[][] right = {{1, 2, 1}, {1, 30, 29}, {2, 1, 1}, {2, 30, 30}, {2, 30, 1}, {3, 0, 0}, {3, 9, 0}, {4, 0, 0}};
        for (int i = 0; i < right.length; i++) {
            int[] law = right[i];
            CHECK.due(i, "law of kind " + law[0], () -> bench.law(law[0], law[1], law[2]));
        }
        CHECK.due(right.length, "laws", () -> bench.count(1));
    }

    private static void rowsThatTellNoLaw() {
        WordBench bench = Check.benchWithSheet();
        bench.row(0, 1, 61);
        Check.fill(bench, 0, 2, 0, 8);
        Check.fill(bench, 0, 3, 0, 3);
        Check.fill(bench, 0, 4, 0, 1, 2, 0, 1, 2, 0);
        Check.fill(bench, 0, 5, 0, 1, 2, 0, 1, 2);
        for (int k = 0; k < 3; k++) {
            int row = k;
            CHECK.due(-1, "told by no such word " + k, () -> bench.law(0, 0, row));
            CHECK.due(-1, "shape by no such word " + k, () -> bench.law(5, 0, row));
        }
        CHECK.due(-1, "shape with a 3", () -> bench.law(5, 0, 3));
        CHECK.due(-1, "shape of 7", () -> bench.law(5, 0, 4));
        CHECK.due(0, "told with a 3", () -> bench.law(0, 0, 3));
        CHECK.due(1, "shape of 6", () -> bench.law(5, 0, 5));
        for (int kind = 0; kind <= 5; kind += 5) {
            int of = kind;
            CHECK.placeRefused("no such sheet", () -> bench.law(of, 1, 0));
            CHECK.placeRefused("no such row", () -> bench.law(of, 0, 10));
            CHECK.placeRefused("no such row", () -> bench.law(of, 0, -1));
        }
    }

    private static void twelveLawsAndNoMore() {
        WordBench bench = Check.benchWithSheet();
        Check.fill(bench, 0, 1, 1);
        for (int i = 0; i < 12; i++) {
            int number = i;
            CHECK.due(i, "law", () -> bench.law(2, 30, number + 1));
        }
        CHECK.due(-2, "law 13", () -> bench.law(4, 0, 0));
        CHECK.due(-2, "law 13 of a row", () -> bench.law(0, 0, 1));
        CHECK.due(-1, "no such word ahead of 12 laws", () -> bench.law(0, 0, 0));
        CHECK.argumentRefused("no such law ahead of 12", () -> bench.law(1, 1, 1));
        CHECK.due(12, "laws", () -> bench.count(1));
        CHECK.due(1, "all twelve bits", () -> bench.clash(4095, 0, 0, 0));
        CHECK.argumentRefused("bit 12", () -> bench.clash(4096, 0, 0, 0));
    }

    private static void countTellsThreeThings() {
        WordBench bench = Check.benchWithSheet();
        bench.law(1, 2, 1);
        CHECK.due(1, "sheets", () -> bench.count(0));
        CHECK.due(1, "laws", () -> bench.count(1));
        CHECK.due(0, "looks ahead of any", () -> bench.count(2));
        bench.many(1, 2, 1);
        CHECK.due(3, "looks", () -> bench.count(2));
        bench.clash(1, 0, 0, 0);
        CHECK.due(3, "looks stay", () -> bench.count(2));
        CHECK.due(WordBench.NONE, "count 3", () -> bench.count(3));
        CHECK.due(WordBench.NONE, "count -1", () -> bench.count(-1));
    }

    /** CLASH of the letters by one LAW: how many letters, how long its SPAN; 0, 0 if they are KEPT. */
    private static void clashes(int letters, int span, int kind, int a, int b, int... word) {
        WordBench bench = Check.benchWithSheet();
        bench.law(kind, a, b);
        Check.fill(bench, 0, 0, word);
        boolean kept = letters == 0;
        CHECK.due(kept ? 1 : 0, "kept by kind " + kind, () -> bench.clash(1, 0, 0, 0));
        CHECK.due(kept ? -1 : letters, "letters by kind " + kind, () -> bench.clash(1, 0, 0, 1));
        CHECK.due(kept ? -1 : 0, "law of kind " + kind, () -> bench.clash(1, 0, 0, 2));
        CHECK.due(kept ? -1 : span, "span by kind " + kind, () -> bench.clash(1, 0, 0, 3));
    }

    private static void lawsOfNumbersBar() {
        clashes(4, 4, 1, 2, 1, 0, 1, 0, 1, 0);
        clashes(0, 0, 1, 2, 1, 0, 1, 0, 2, 0, 1, 0);
        clashes(3, 3, 1, 3, 2, 0, 1, 0);
        clashes(5, 5, 1, 5, 3, 0, 1, 2, 0, 1, 2);
        clashes(6, 6, 1, 7, 4, 0, 1, 2, 0, 1, 2);
        clashes(5, 5, 2, 2, 1, 0, 1, 0, 1, 0);
        clashes(0, 0, 2, 2, 1, 0, 1, 0, 1, 1);
        clashes(3, 3, 2, 1, 1, 0, 1, 0);
        clashes(0, 0, 2, 1, 1, 0, 1, 2, 3, 4, 5, 6, 7);
        clashes(2, 2, 3, 0, 0, 0, 0);
        clashes(2, 2, 3, 9, 0, 0, 0, 1);
        clashes(0, 0, 3, 9, 0, 0, 1, 2, 3, 4, 5, 6, 7);
        clashes(4, 4, 3, 1, 0, 0, 1, 0, 2);
        clashes(0, 0, 3, 0, 0, 0, 1, 0, 2);
        clashes(6, 6, 3, 2, 0, 0, 1, 2, 0, 3, 4);
        clashes(0, 0, 3, 1, 0, 0, 1, 2, 0, 3, 4);
        clashes(6, 6, 4, 0, 0, 0, 1, 2, 0, 2, 1);
        clashes(0, 0, 4, 0, 0, 0, 1, 0, 2, 0, 1, 0);
        clashes(5, 4, 4, 0, 0, 2, 7, 0, 7, 0);
    }

    private static void toldWordsBarThemselvesAlone() {
        WordBench bench = Check.benchWithSheet();
        Check.fill(bench, 0, 0, 1, 2);
        bench.law(0, 0, 0);
        Check.fill(bench, 0, 0, 2, 1, 2, 1);
        CHECK.due(3, "letters", () -> bench.clash(1, 0, 0, 1));
        CHECK.due(2, "span", () -> bench.clash(1, 0, 0, 3));
        Check.fill(bench, 0, 0, 2, 1, 1, 0);
        CHECK.due(1, "kept", () -> bench.clash(1, 0, 0, 0));
        Check.fill(bench, 0, 0, 0, 2);
        CHECK.due(1, "its last letter alone is kept", () -> bench.clash(1, 0, 0, 0));
        Check.fill(bench, 0, 0, 2);
        CHECK.due(1, "a shorter word is kept", () -> bench.clash(1, 0, 0, 0));
    }

    private static void clashOfSixtyLetters() {
        WordBench bench = Check.benchWithSheet();
        bench.row(0, 0, 60);
        bench.law(0, 0, 0);
        Check.fill(bench, 0, 1, 1);
        bench.law(0, 0, 1);
        CHECK.due(60, "letters", () -> bench.clash(3, 0, 0, 1));
        CHECK.due(60, "span", () -> bench.clash(3, 0, 0, 3));
        bench.put(0, 0, 59, 1);
        CHECK.due(60, "letters", () -> bench.clash(3, 0, 0, 1));
        CHECK.due(1, "law", () -> bench.clash(3, 0, 0, 2));
        CHECK.due(1, "kept by the other", () -> bench.clash(1, 0, 0, 0));
    }

    private static void shapesBarWhatComesOfThem() {
        WordBench bench = Check.benchWithSheet();
        Check.fill(bench, 0, 0, 0, 1, 1, 0);
        bench.law(5, 0, 0);
        Check.fill(bench, 0, 1, 3, 4, 2, 5, 2, 5, 3, 4);
        CHECK.due(8, "letters", () -> bench.clash(1, 0, 1, 1));
        CHECK.due(8, "span", () -> bench.clash(1, 0, 1, 3));
        Check.fill(bench, 0, 1, 3, 4, 2, 5, 2, 5, 3, 3);
        CHECK.due(1, "kept", () -> bench.clash(1, 0, 1, 0));
        Check.fill(bench, 0, 1, 0, 0, 0, 0);
        CHECK.due(4, "two unknowns may get the same word", () -> bench.clash(1, 0, 1, 3));
        Check.fill(bench, 0, 2, 2);
        bench.law(5, 0, 2);
        Check.fill(bench, 0, 1, 6, 5);
        CHECK.due(1, "one unknown bars every letter", () -> bench.clash(2, 0, 1, 1));
    }

    private static void theLeastLawAndItsShortestSpan() {
        WordBench bench = Check.benchWithSheet();
        Check.fill(bench, 0, 0, 2, 0, 1, 0, 1);
        bench.law(0, 0, 0);
        bench.law(1, 2, 1);
        Check.fill(bench, 0, 1, 2, 0, 1, 0, 1, 1);
        CHECK.due(5, "letters", () -> bench.clash(3, 0, 1, 1));
        CHECK.due(0, "the law with the least number", () -> bench.clash(3, 0, 1, 2));
        CHECK.due(5, "its span", () -> bench.clash(3, 0, 1, 3));
        CHECK.due(1, "the other law alone", () -> bench.clash(2, 0, 1, 2));
        CHECK.due(4, "its span", () -> bench.clash(2, 0, 1, 3));
        Check.fill(bench, 0, 2, 1, 1);
        bench.law(5, 0, 2);
        Check.fill(bench, 0, 1, 0, 1, 2, 1, 0, 1, 2, 1, 1);
        CHECK.due(8, "letters by the shape", () -> bench.clash(4, 0, 1, 1));
        CHECK.due(8, "span by the shape", () -> bench.clash(4, 0, 1, 3));
    }

    private static void lawsKeepTheWordThatWasTold() {
        WordBench bench = Check.benchWithSheet();
        Check.fill(bench, 0, 0, 1, 2);
        bench.law(0, 0, 0);
        bench.tear(0, 0);
        Check.fill(bench, 0, 1, 1, 2);
        CHECK.due(0, "kept", () -> bench.clash(1, 0, 1, 0));
    }

    private static void clashOfWhatIsNoWordAndWrongInputs() {
        WordBench bench = Check.benchWithSheet();
        bench.law(1, 2, 1);
        bench.row(0, 1, 61);
        for (int what = 0; what < 4; what++) {
            int asked = what;
            CHECK.due(-2, "no word", () -> bench.clash(1, 0, 1, asked));
            CHECK.due(asked == 0 ? 1 : -1, "the empty word", () -> bench.clash(1, 0, 0, asked));
        }
        Check.fill(bench, 0, 0, 0, 0, 0);
        CHECK.due(1, "the empty set keeps all", () -> bench.clash(0, 0, 0, 0));
        CHECK.argumentRefused("bit 1", () -> bench.clash(2, 0, 0, 0));
        CHECK.argumentRefused("bit 31", () -> bench.clash(Integer.MIN_VALUE, 0, 0, 0));
        CHECK.argumentRefused("what 4", () -> bench.clash(1, 0, 0, 4));
        CHECK.argumentRefused("what -1 of no word", () -> bench.clash(1, 0, 1, -1));
        CHECK.placeRefused("no such row, ahead of the set", () -> bench.clash(2, 0, 10, 4));
        CHECK.placeRefused("no such sheet, ahead of the what", () -> bench.clash(1, 1, 0, 4));
    }

    public static void main(String[] args) {
        numbersOutsideAreRefused();
        rowsThatTellNoLaw();
        twelveLawsAndNoMore();
        countTellsThreeThings();
        lawsOfNumbersBar();
        toldWordsBarThemselvesAlone();
        clashOfSixtyLetters();
        shapesBarWhatComesOfThem();
        theLeastLawAndItsShortestSpan();
        lawsKeepTheWordThatWasTold();
        clashOfWhatIsNoWordAndWrongInputs();
        CHECK.end();
    }
}
