/** Part 3 of the terms and promises 13 to 16: many, find, rank, longest, with the LOOKS that they take. */
public final class SearchTest {
    private static final Check CHECK = new Check("SearchTest");
    private static final int LEAST = Integer.MIN_VALUE;
    private static final int MOST = Integer.MAX_VALUE;
    private static final int[] NO_LETTER = {0, 8};

    private static WordBench benchAgainstSquares() {
        WordBench bench = Check.benchWithSheet();
        bench.law(1, 2, 1);
        return bench;
    }

    private static void tellLaw(WordBench bench, int kind, String word) {
        Check.fill(bench, 0, 9, word);
        bench.law(kind, 0, 9);
    }

    /** LAW 0 is a SHAPE, LAW 1 POWER 2, 1. */
    private static WordBench benchWithShape(String told) {
        WordBench bench = Check.benchWithSheet();
        tellLaw(bench, 5, told);
        bench.law(1, 2, 1);
        return bench;
    }

    /**
     * All seven LAWS over seven letters leave 2857 WORDS of at most 36 letters: each is gone on with by seven
     * LOOKS, which are 20,000 with the empty WORD's.
     */
    private static WordBench benchOfTwentyThousandLooks() {
        WordBench bench = Check.benchWithSheet();
        bench.law(1, 7, 5);
        for (String told : new String[] {"1320", "213", "1032", "4", "5", "6"}) {
            tellLaw(bench, 0, told);
        }
        return bench;
    }

    /** The same with eight LAWS over eight letters, 2500 WORDS and 20,001 LOOKS. */
    private static WordBench benchOfOneLookMore() {
        WordBench bench = Check.benchWithSheet();
        bench.law(1, 7, 5);
        for (String told : new String[] {"2130", "302132", "031", "4", "5", "6", "7"}) {
            tellLaw(bench, 0, told);
        }
        return bench;
    }

    private static void alphabetsAreOneToEight() {
        CHECK.says("Terms 3", "an ALPHABET (1 to 8: LETTERS below it)");
        WordBench bench = benchAgainstSquares();
        for (int alphabet : new int[] {1, 2, 3, 4, 5, 6, 7, 8}) {
            CHECK.due(alphabet * alphabet, "words of two", () -> bench.many(0, alphabet, 2));
            CHECK.due(1, "the last", () -> bench.find(0, alphabet, 2, alphabet * alphabet - 1, 0));
            CHECK.holds(bench, 0, 0, "" + (alphabet - 1) + (alphabet - 1));
            CHECK.due(alphabet * alphabet - 1, "its rank", () -> bench.rank(0, alphabet, 0, 0));
        }
        for (int alphabet : new int[] {0, 9, -1, LEAST, MOST}) {
            CHECK.argumentRefused("many over " + alphabet, () -> bench.many(1, alphabet, 2));
            CHECK.argumentRefused("find over " + alphabet, () -> bench.find(1, alphabet, 2, 0, 0));
            CHECK.argumentRefused("rank over " + alphabet, () -> bench.rank(1, alphabet, 0, 0));
            CHECK.argumentRefused("longest over " + alphabet, () -> bench.longest(1, alphabet));
        }
    }

    private static void lettersArePutBehindInOrder() {
        CHECK.says("Terms 3", "from the empty WORD each LETTER in order is put behind");
        WordBench bench = benchAgainstSquares();
        String[] words = {"010", "012", "020", "021", "101", "102", "120", "121", "201", "202", "210", "212"};
        for (int i = 0; i < words.length; i++) {
            int k = i;
            CHECK.due(1, "find " + k, () -> bench.find(1, 3, 3, k, 0));
            CHECK.holds(bench, 0, 0, words[i]);
        }
    }

    private static void eachWordThatIsMadeIsALook() {
        CHECK.says("Terms 3", "Each WORD that is made so (the empty one, and those that are left, too) is a LOOK");
        WordBench bench = benchAgainstSquares();
        CHECK.due(1, "the empty word", () -> bench.many(1, 8, 0));
        CHECK.looks(bench, 1);
        CHECK.due(8, "words of one", () -> bench.many(1, 8, 1));
        CHECK.looks(bench, 9);
        CHECK.due(0, "over one letter", () -> bench.many(1, 1, 2));
        CHECK.looks(bench, 3);
        CHECK.due(2, "over two letters", () -> bench.many(1, 2, 3));
        CHECK.looks(bench, 11);
        CHECK.due(0, "what is left is not gone on with", () -> bench.many(1, 2, 60));
        CHECK.looks(bench, 15);
        CHECK.due(1, "over one letter by no law", () -> bench.many(0, 1, 60));
        CHECK.looks(bench, 61);
    }

    private static void aLookIsTenWithAShape() {
        CHECK.says("Terms 3", "ten, if a SHAPE is in the set");
        WordBench bench = benchWithShape("00");
        int[][] looks = {{1, 10}, {2, 1}, {3, 10}, {0, 1}};
        for (int[] of : looks) {
            bench.many(of[0], 8, 0);
            CHECK.looks(bench, of[1]);
            bench.longest(of[0], 1);
            CHECK.looks(bench, of[0] == 0 ? 61 : 3 * of[1]);
        }
        CHECK.due(144, "squares by their shape", () -> bench.many(1, 3, 10));
        CHECK.looks(bench, 10750);
        CHECK.due(144, "squares by their power", () -> bench.many(2, 3, 10));
        CHECK.looks(bench, 1075);
    }

    private static void aShapeOfAnyNumberMakesItTen() {
        CHECK.says("Terms 3", "ten, if a SHAPE is in the set, whichever its number");
        for (int number = 0; number < 12; number++) {
            WordBench bench = Check.benchWithSheet();
            for (int law = 0; law < 12; law++) {
                tellLaw(bench, law == number ? 5 : 0, "01");
            }
            int[][] looks = {{1 << number, 10}, {4095, 10}, {4095 - (1 << number), 1}};
            for (int[] of : looks) {
                CHECK.due(1, "many by " + of[0], () -> bench.many(of[0], 8, 0));
                CHECK.looks(bench, of[1]);
            }
        }
    }

    private static void twentyThousandLooksAreNotSpent() {
        CHECK.says("Terms 3", "A call may take 20,000 LOOKS");
        WordBench bench = benchOfTwentyThousandLooks();
        int set = 127;
        CHECK.due(0, "many", () -> bench.many(set, 7, 60));
        CHECK.looks(bench, 20000);
        CHECK.due(0, "find", () -> bench.find(set, 7, 60, 0, 0));
        CHECK.looks(bench, 20000);
        CHECK.due(36, "longest", () -> bench.longest(set, 7));
        CHECK.looks(bench, 20000);
        CHECK.due(1, "find by no law", () -> bench.find(0, 2, 60, 9974, 0));
        CHECK.looks(bench, 20000);
        CHECK.due(9974, "its rank", () -> bench.rank(0, 2, 0, 0));
        CHECK.looks(bench, 20000);
    }

    private static void oneLookMoreIsSpent() {
        CHECK.says("Terms 3", "when more would be taken it is SPENT");
        WordBench bench = benchOfOneLookMore();
        int set = 255;
        CHECK.due(1, "many of 36", () -> bench.many(set, 8, 36));
        CHECK.looks(bench, 19993);
        CHECK.due(-2, "many of 37", () -> bench.many(set, 8, 37));
        CHECK.looks(bench, 20000);
        bench.many(0, 1, 1);
        CHECK.due(-2, "find", () -> bench.find(set, 8, 37, 0, 0));
        CHECK.looks(bench, 20000);
        bench.many(0, 1, 1);
        CHECK.due(-2, "longest", () -> bench.longest(set, 8));
        CHECK.looks(bench, 20000);
        bench.many(0, 1, 1);
        CHECK.due(-2, "find by no law", () -> bench.find(0, 2, 60, 9975, 0));
        CHECK.looks(bench, 20000);
        bench.many(0, 1, 1);
        Check.fill(bench, 0, 1, "0".repeat(46) + "10011011110111");
        CHECK.due(-2, "rank of the one behind look 20,000", () -> bench.rank(0, 2, 0, 1));
        CHECK.looks(bench, 20000);
    }

    private static void twoThousandWordsWithAShape() {
        CHECK.says("Terms 3", "ten, if a SHAPE is in the set. A call may take 20,000 LOOKS");
        WordBench bench = benchWithShape("012012");
        CHECK.due(1, "find with look 20,000", () -> bench.find(1, 8, 5, 1746, 0));
        CHECK.looks(bench, 20000);
        CHECK.holds(bench, 0, 0, "03322");
        CHECK.due(1746, "its rank", () -> bench.rank(1, 8, 0, 0));
        CHECK.looks(bench, 20000);
        CHECK.due(-2, "find behind it", () -> bench.find(1, 8, 5, 1747, 0));
        CHECK.looks(bench, 20000);
        Check.fill(bench, 0, 0, "03323");
        CHECK.due(-2, "rank behind it", () -> bench.rank(1, 8, 0, 0));
        WordBench inside = benchWithShape("00111");
        CHECK.due(664, "1999 words", () -> inside.many(1, 2, 11));
        CHECK.looks(inside, 19990);
        WordBench outside = benchWithShape("010020");
        CHECK.due(-2, "2003 words", () -> outside.many(1, 2, 14));
        CHECK.looks(outside, 20000);
    }

    private static void manyTellsHowManyAreFound() {
        CHECK.says("Promise 13", "COUNT");
        WordBench bench = benchAgainstSquares();
        int[] squareFree = {1, 3, 6, 12, 18, 30, 42, 60, 78, 108, 144, 204, 264, 342, 456, 618};
        for (int n = 0; n < squareFree.length; n++) {
            int letters = n;
            CHECK.due(squareFree[n], "square-free words of " + n, () -> bench.many(1, 3, letters));
        }
        CHECK.due(8192, "all words of 13", () -> bench.many(0, 2, 13));
        CHECK.looks(bench, 16383);
    }

    private static void manyIsSpent() {
        CHECK.says("Promise 13", "-2: SPENT");
        WordBench bench = benchWithShape("00");
        CHECK.due(-2, "all words of 14", () -> bench.many(0, 2, 14));
        CHECK.due(-2, "all words of 60", () -> bench.many(0, 8, 60));
        CHECK.due(342, "square-free words of 13", () -> bench.many(2, 3, 13));
        CHECK.due(-2, "the same by their shape", () -> bench.many(1, 3, 13));
        CHECK.looks(bench, 20000);
    }

    private static void searchesByNoLaw() {
        CHECK.says("Promise 12", "IllegalArgumentException: a bit of the set is no LAW (so below)");
        WordBench bench = benchAgainstSquares();
        for (int set : new int[] {2, 3, 4096, LEAST, LEAST + 1, -1, MOST}) {
            CHECK.argumentRefused("many by " + set, () -> bench.many(set, 2, 2));
            CHECK.argumentRefused("find by " + set, () -> bench.find(set, 2, 2, 0, 0));
            CHECK.argumentRefused("rank by " + set, () -> bench.rank(set, 2, 0, 0));
            CHECK.argumentRefused("longest by " + set, () -> bench.longest(set, 2));
        }
        CHECK.looks(bench, 0);
    }

    private static void wordsOfNoneToSixty() {
        CHECK.says("Promise 13", "IllegalArgumentException: also the ALPHABET is not 1 to 8, n not 0 to 60");
        WordBench bench = benchAgainstSquares();
        CHECK.due(1, "many of 0", () -> bench.many(1, 1, 0));
        CHECK.due(1, "many of 60", () -> bench.many(0, 1, 60));
        CHECK.due(1, "find of 60", () -> bench.find(0, 1, 60, 0, 0));
        CHECK.holds(bench, 0, 0, "0".repeat(60));
        for (int n : new int[] {-1, 61, LEAST, MOST}) {
            CHECK.argumentRefused("many of " + n, () -> bench.many(1, 2, n));
            CHECK.argumentRefused("find of " + n, () -> bench.find(1, 2, n, 0, 0));
        }
        for (int alphabet : new int[] {0, 9}) {
            CHECK.argumentRefused("many over " + alphabet, () -> bench.many(1, alphabet, 0));
            CHECK.argumentRefused("find over " + alphabet, () -> bench.find(1, alphabet, 0, 0, 0));
        }
        CHECK.looks(bench, 61);
    }

    private static void findBringsTheWordAsRowZero() {
        CHECK.says("Promise 14", "The k-th KEPT WORD of n letters comes as ROW 0 of a SHEET (in the place of what is "
                + "there): 1");
        for (int width = 0; width < 3; width++) {
            WordBench bench = new WordBench();
            bench.sheet(width);
            int to = bench.sheet(width);
            bench.law(1, 2, 1);
            bench.row(to, 0, 80);
            Check.fill(bench, to, 1, "77");
            CHECK.due(1, "find for a row of 80", () -> bench.find(1, 8, 2, 55, to));
            CHECK.holds(bench, to, 0, "76");
            CHECK.holds(bench, to, 1, "77");
            CHECK.due(-1, "the other sheet's row 0", () -> bench.tear(0, 0));
            CHECK.due(2, "how many it has", () -> bench.tear(to, 0));
            CHECK.due(1, "find for a missing row", () -> bench.find(1, 3, 4, 0, to));
            CHECK.holds(bench, to, 0, "0102");
        }
    }

    private static void findEndsWithTheWord() {
        CHECK.says("Terms 3", "The k-th (from 0 on): SEARCH ends with it.");
        WordBench bench = benchAgainstSquares();
        int[][] looks = {{0, 8}, {1, 11}, {16, 61}, {17, 64}};
        for (int[] of : looks) {
            CHECK.due(1, "find " + of[0], () -> bench.find(1, 3, 4, of[0], 0));
            CHECK.looks(bench, of[1]);
        }
    }

    private static void findOfTheEmptyWord() {
        CHECK.says("Promise 14", "The k-th KEPT WORD of n letters, of none");
        WordBench bench = benchWithShape("0");
        bench.row(0, 0, 70);
        CHECK.due(0, "a second one", () -> bench.find(1, 3, 0, 1, 0));
        CHECK.looks(bench, 10);
        CHECK.due(70, "the row stays", () -> bench.tear(0, 0));
        CHECK.due(1, "the first one", () -> bench.find(1, 3, 0, 0, 0));
        CHECK.looks(bench, 10);
        CHECK.due(0, "a row of none, not a missing one", () -> bench.tear(0, 0));
    }

    private static void findOfFewer() {
        CHECK.says("Promise 14", "0, doing nothing: there are fewer");
        WordBench bench = benchAgainstSquares();
        CHECK.due(1, "the last", () -> bench.find(1, 3, 4, 17, 0));
        CHECK.holds(bench, 0, 0, "2120");
        for (int k : new int[] {18, 19, 20000, 20001, MOST - 1, MOST}) {
            CHECK.due(0, "find " + k, () -> bench.find(1, 3, 4, k, 0));
            CHECK.looks(bench, 67);
            CHECK.holds(bench, 0, 0, "2120");
        }
        CHECK.due(0, "none at all", () -> bench.find(1, 2, 4, 0, 0));
        CHECK.holds(bench, 0, 0, "2120");
    }

    private static void findBelowZero() {
        CHECK.says("Promise 14", "0, doing nothing: (or k is below 0)");
        WordBench bench = benchAgainstSquares();
        Check.fill(bench, 0, 0, "5");
        bench.many(1, 3, 4);
        for (int k : new int[] {-1, -2, LEAST}) {
            CHECK.due(0, "find " + k, () -> bench.find(1, 3, 4, k, 0));
            CHECK.due(0, "find " + k + " of what would be spent", () -> bench.find(0, 8, 60, k, 0));
            CHECK.looks(bench, 67);
            CHECK.holds(bench, 0, 0, "5");
        }
    }

    private static void findIsSpent() {
        CHECK.says("Promise 14", "-2, doing nothing: SPENT");
        WordBench bench = Check.benchWithSheet();
        bench.row(0, 0, 80);
        CHECK.due(-2, "find", () -> bench.find(0, 2, 14, 10000, 0));
        CHECK.due(-2, "find of the greatest number", () -> bench.find(0, 8, 60, MOST, 0));
        CHECK.looks(bench, 20000);
        CHECK.due(80, "the row stays", () -> bench.tear(0, 0));
        CHECK.due(1, "find in the first half", () -> bench.find(0, 2, 14, 8191, 0));
        CHECK.holds(bench, 0, 0, "01111111111111");
    }

    private static void findInNoSheet() {
        CHECK.says("Promise 14", "IllegalArgumentException as many(), IndexOutOfBoundsException behind it.");
        WordBench bench = benchAgainstSquares();
        for (int sheet : new int[] {-1, 1, 15, 16, LEAST, MOST}) {
            CHECK.placeRefused("find", () -> bench.find(1, 2, 2, 0, sheet));
            CHECK.placeRefused("find below 0", () -> bench.find(1, 2, 2, -1, sheet));
            CHECK.placeRefused("find of fewer", () -> bench.find(1, 2, 2, 5, sheet));
            CHECK.argumentRefused("the set comes first", () -> bench.find(2, 2, 2, 0, sheet));
            CHECK.argumentRefused("the alphabet comes first", () -> bench.find(1, 9, 2, 0, sheet));
            CHECK.argumentRefused("the length comes first", () -> bench.find(1, 2, 61, 0, sheet));
        }
        CHECK.looks(bench, 0);
    }

    private static void rankTellsHowManyAreAhead() {
        CHECK.says("Terms 3", "RANK of a WORD: how many are found ahead of it, SEARCH ends with it.");
        WordBench bench = benchAgainstSquares();
        for (int k = 0; k < 18; k++) {
            int which = k;
            bench.find(1, 3, 4, which, 0);
            int taken = bench.count(2);
            bench.many(0, 1, 0);
            CHECK.due(which, "rank", () -> bench.rank(1, 3, 0, 0));
            CHECK.looks(bench, taken);
        }
        Check.fill(bench, 0, 1, "0".repeat(60));
        CHECK.due(0, "rank of sixty", () -> bench.rank(0, 1, 0, 1));
        CHECK.looks(bench, 61);
    }

    private static void rankOfTheEmptyWord() {
        CHECK.says("Promise 15", "RANK of the WORD of a ROW, an empty one");
        WordBench bench = benchWithShape("0");
        bench.row(0, 1, 0);
        CHECK.due(0, "a missing row", () -> bench.rank(2, 3, 0, 0));
        CHECK.looks(bench, 1);
        CHECK.due(0, "a row of none", () -> bench.rank(1, 3, 0, 1));
        CHECK.looks(bench, 10);
    }

    private static void noRank(int set, int alphabet, WordBench bench, int k) {
        bench.many(0, 1, 4);
        CHECK.due(-1, "rank of row " + k, () -> bench.rank(set, alphabet, 0, k));
        CHECK.looks(bench, 5);
    }

    private static void rankOfNoWord() {
        CHECK.says("Promise 15", "-1: it is none (then there is no SEARCH)");
        WordBench bench = benchAgainstSquares();
        Check.fill(bench, 0, 0, NO_LETTER);
        bench.row(0, 1, 61);
        Check.fill(bench, 0, 2, -1);
        for (int k = 0; k < 3; k++) {
            noRank(1, 8, bench, k);
            noRank(0, 8, bench, k);
        }
    }

    private static void rankBeyondTheAlphabet() {
        CHECK.says("Promise 15", "-1: or has letters beyond the ALPHABET (then there is no SEARCH)");
        WordBench bench = benchAgainstSquares();
        Check.fill(bench, 0, 0, "03");
        Check.fill(bench, 0, 1, "30");
        Check.fill(bench, 0, 2, "7");
        for (int k = 0; k < 2; k++) {
            noRank(1, 3, bench, k);
        }
        noRank(0, 7, bench, 2);
        CHECK.due(3, "with a letter more", () -> bench.rank(0, 4, 0, 0));
        CHECK.due(9, "with a letter more", () -> bench.rank(1, 4, 0, 1));
        CHECK.due(7, "with all letters", () -> bench.rank(0, 8, 0, 2));
    }

    private static void rankOfWhatIsNotKept() {
        CHECK.says("Promise 15", "-1: or is not KEPT (then there is no SEARCH)");
        WordBench bench = benchAgainstSquares();
        Check.fill(bench, 0, 0, "0101");
        Check.fill(bench, 0, 1, "00");
        noRank(1, 3, bench, 0);
        noRank(1, 3, bench, 1);
        CHECK.due(10, "by no law", () -> bench.rank(0, 3, 0, 0));
    }

    private static void rankIsSpent() {
        CHECK.says("Promise 15", "-2: SPENT");
        WordBench bench = benchWithShape("00");
        Check.fill(bench, 0, 0, "77777");
        CHECK.due(-2, "rank", () -> bench.rank(0, 8, 0, 0));
        CHECK.looks(bench, 20000);
        Check.fill(bench, 0, 0, "7".repeat(60));
        CHECK.due(-2, "rank of sixty", () -> bench.rank(0, 8, 0, 0));
        CHECK.holds(bench, 0, 0, "7".repeat(60));
    }

    private static void rankOfNoSuchRow() {
        CHECK.says("Promise 15", "IllegalArgumentException as above, ahead of IndexOutOfBoundsException.");
        WordBench bench = benchAgainstSquares();
        int[][] wrong = {{-1, 0}, {1, 0}, {16, 0}, {0, -1}, {0, 10}, {LEAST, MOST}};
        for (int[] place : wrong) {
            CHECK.placeRefused("rank", () -> bench.rank(1, 2, place[0], place[1]));
            CHECK.argumentRefused("the set comes first", () -> bench.rank(2, 2, place[0], place[1]));
            CHECK.argumentRefused("the alphabet comes first", () -> bench.rank(1, 0, place[0], place[1]));
            CHECK.argumentRefused("the alphabet comes first", () -> bench.rank(1, 9, place[0], place[1]));
        }
        CHECK.looks(bench, 0);
    }

    private static void longestTellsTheMostLetters() {
        CHECK.says("Terms 3", "LONGEST: else the most letters that a KEPT WORD had");
        WordBench bench = benchWithShape("2");
        bench.law(4, 0, 0);
        bench.law(1, 7, 4);
        tellLaw(bench, 0, "0".repeat(60));
        CHECK.due(0, "every letter barred", () -> bench.longest(1, 8));
        CHECK.looks(bench, 90);
        CHECK.due(1, "squares, one letter", () -> bench.longest(2, 1));
        CHECK.due(3, "squares, two letters", () -> bench.longest(2, 2));
        CHECK.looks(bench, 15);
        CHECK.due(7, "turned, three letters", () -> bench.longest(4, 3));
        CHECK.due(38, "7/4, three letters", () -> bench.longest(8, 3));
        CHECK.looks(bench, 9589);
        CHECK.due(59, "one letter, but not sixty times", () -> bench.longest(16, 1));
        CHECK.looks(bench, 61);
    }

    private static void longestFindsSixtyLetters() {
        CHECK.says("Promise 16", "NONE: a WORD of 60 was found");
        WordBench bench = benchAgainstSquares();
        CHECK.due(WordBench.NONE, "one letter", () -> bench.longest(0, 1));
        CHECK.looks(bench, 61);
        CHECK.due(WordBench.NONE, "eight letters", () -> bench.longest(0, 8));
        CHECK.looks(bench, 61);
        CHECK.due(WordBench.NONE, "squares, three letters", () -> bench.longest(1, 3));
        int taken = bench.count(2);
        CHECK.due(1, "the first of sixty", () -> bench.find(1, 3, 60, 0, 0));
        CHECK.looks(bench, taken);
    }

    private static void longestIsSpent() {
        CHECK.says("Promise 16", "-2: SPENT");
        WordBench bench = benchWithShape("00");
        bench.law(1, 7, 4);
        bench.law(3, 2, 0);
        CHECK.due(-2, "7/4 with a shape", () -> bench.longest(5, 3));
        CHECK.looks(bench, 20000);
        CHECK.due(-2, "near 2, five letters", () -> bench.longest(8, 5));
        CHECK.looks(bench, 20000);
    }

    private static void terms() {
        alphabetsAreOneToEight();
        lettersArePutBehindInOrder();
        eachWordThatIsMadeIsALook();
        aLookIsTenWithAShape();
        aShapeOfAnyNumberMakesItTen();
        twentyThousandLooksAreNotSpent();
        oneLookMoreIsSpent();
        twoThousandWordsWithAShape();
    }

    private static void findsAndRanks() {
        findBringsTheWordAsRowZero();
        findEndsWithTheWord();
        findOfTheEmptyWord();
        findOfFewer();
        findBelowZero();
        findIsSpent();
        findInNoSheet();
        rankTellsHowManyAreAhead();
        rankOfTheEmptyWord();
        rankOfNoWord();
        rankBeyondTheAlphabet();
        rankOfWhatIsNotKept();
        rankIsSpent();
        rankOfNoSuchRow();
    }

    public static void main(String[] args) {
        terms();
        manyTellsHowManyAreFound();
        manyIsSpent();
        searchesByNoLaw();
        wordsOfNoneToSixty();
        findsAndRanks();
        longestTellsTheMostLetters();
        longestFindsSixtyLetters();
        longestIsSpent();
        CHECK.end();
    }
}
