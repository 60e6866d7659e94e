/** Part 2 of the terms but for RUNS, and promises 8, 9 and 12: law, count, clash. */
public final class LawsTest {
    private static final Check CHECK = new Check("LawsTest");
    private static final int LEAST = Integer.MIN_VALUE;
    private static final int MOST = Integer.MAX_VALUE;
    private static final int TOLD = 0;
    private static final int POWER = 1;
    private static final int ABOVE = 2;
    private static final int NEAR = 3;
    private static final int TURNED = 4;
    private static final int SHAPE = 5;

    /** Twice these letters hold no other square than the whole. */
    private static final String HALF = "012010210121021202101201020121";
    /** Two halves with each letter alike often; no SPAN of it else has such. */
    private static final String TURNED_WORD = "037626573653032614512106264675275456403075217165163626063623";
    /** Its halves differ in three places, and no SPAN of it else has halves that differ in so few. */
    private static final String NEAR_WORD = "512743562031542307513240713426517043562731542307513240713426";
    private static final int[] NO_LETTER = {8};

    /** CLASH of a word by a set: how many letters, by which LAW, how long its SPAN. */
    private static void clashes(WordBench bench, int set, String word, int letters, int law, int span) {
        Check.fill(bench, 0, 9, word);
        CHECK.due(0, word + " kept", () -> bench.clash(set, 0, 9, 0));
        CHECK.due(letters, word + ", letters", () -> bench.clash(set, 0, 9, 1));
        CHECK.due(law, word + ", law", () -> bench.clash(set, 0, 9, 2));
        CHECK.due(span, word + ", span", () -> bench.clash(set, 0, 9, 3));
    }

    private static void isKept(WordBench bench, int set, String word) {
        Check.fill(bench, 0, 9, word);
        CHECK.due(1, word + " kept", () -> bench.clash(set, 0, 9, 0));
        for (int what : new int[] {1, 2, 3}) {
            CHECK.due(-1, word + ", what " + what, () -> bench.clash(set, 0, 9, what));
        }
    }

    /** A bench whose LAW 0 is of a KIND by numbers. */
    private static WordBench benchBy(int kind, int a, int b) {
        WordBench bench = Check.benchWithSheet();
        CHECK.due(0, "law of kind " + kind + ": " + a + ", " + b, () -> bench.law(kind, a, b));
        return bench;
    }

    /** A bench whose LAW 0 is of a KIND by letters. */
    private static WordBench benchByLetters(int kind, String told) {
        WordBench bench = Check.benchWithSheet();
        Check.fill(bench, 0, 0, told);
        CHECK.due(0, "law of kind " + kind + ": " + told, () -> bench.law(kind, 0, 0));
        return bench;
    }

    private static void lawsAreTwelve() {
        CHECK.says("Terms 2", "LAWS, numbered from 0 on, at most 12");
        WordBench bench = Check.benchWithSheet();
        for (int i = 0; i < 12; i++) {
            int next = i;
            CHECK.argumentRefused("bit " + i, () -> bench.clash(1 << next, 0, 0, 0));
            CHECK.due(i, "law", () -> bench.law(ABOVE, 30, next + 1));
            CHECK.due(1, "bit " + i, () -> bench.clash(1 << next, 0, 0, 0));
        }
        CHECK.due(-2, "law 12", () -> bench.law(TURNED, 0, 0));
        CHECK.argumentRefused("bit 12", () -> bench.clash(1 << 12, 0, 0, 0));
    }

    private static void toldBarsThatAlone() {
        CHECK.says("Terms 2", "TOLD: a told WORD (not empty), that alone");
        WordBench bench = benchByLetters(TOLD, "12");
        clashes(bench, 1, "12", 2, 0, 2);
        clashes(bench, 1, "2121", 3, 0, 2);
        for (String word : new String[] {"1", "2", "21", "02", "10", "11", "22", "102", "2110"}) {
            isKept(bench, 1, word);
        }
        clashes(benchByLetters(TOLD, "7"), 1, "01234567", 8, 0, 1);
    }

    private static void toldWordsOfSixty() {
        CHECK.says("Terms 2", "TOLD: a told WORD, of as many letters as one can have");
        WordBench bench = benchByLetters(TOLD, HALF + HALF);
        clashes(bench, 1, HALF + HALF, 60, 0, 60);
        isKept(bench, 1, "1" + (HALF + HALF).substring(1));
        isKept(bench, 1, (HALF + HALF).substring(0, 59) + "2");
        isKept(bench, 1, (HALF + HALF).substring(0, 59));
        isKept(bench, 1, (HALF + HALF).substring(1));
    }

    private static void powersAreToldByOneToThirty() {
        CHECK.says("Terms 2", "POWER p, q (1 to 30, p above q)");
        int[][] right = {{2, 1}, {30, 1}, {30, 29}, {3, 2}};
        int[][] wrong = {{1, 1}, {30, 30}, {1, 2}, {29, 30}, {31, 1}, {31, 30}, {2, 0}, {1, 0}, {2, -1}, {0, -1},
            {-1, -2}, {MOST, 1}, {30, LEAST}, {LEAST, LEAST}, {31, 31}};
        numbersOfALaw(POWER, right, wrong);
    }

    private static void abovesAreToldByOneToThirty() {
        CHECK.says("Terms 2", "ABOVE p, q (1 to 30, p not below q)");
        int[][] right = {{1, 1}, {30, 30}, {30, 1}, {30, 29}};
        int[][] wrong = {{1, 2}, {29, 30}, {31, 1}, {31, 30}, {31, 31}, {0, 0}, {1, 0}, {2, -1}, {-1, -1}, {MOST, 1},
            {30, LEAST}, {MOST, MOST}};
        numbersOfALaw(ABOVE, right, wrong);
    }

    private static void nearsAreToldByNoneToNine() {
        CHECK.says("Terms 2", "NEAR d (0 to 9)");
        int[][] wrong = {{-1, 0}, {10, 0}, {LEAST, 0}, {MOST, 0}};
        numbersOfALaw(NEAR, new int[][] {{0, 0}, {1, 0}, {9, 0}}, wrong);
    }

    private static void numbersOfALaw(int kind, int[][] right, int[][] wrong) {
        WordBench bench = Check.benchWithSheet();
        for (int[] law : wrong) {
            CHECK.argumentRefused(law[0] + ", " + law[1], () -> bench.law(kind, law[0], law[1]));
        }
        CHECK.due(0, "laws", () -> bench.count(1));
        for (int i = 0; i < right.length; i++) {
            int[] law = right[i];
            CHECK.due(i, law[0] + ", " + law[1], () -> bench.law(kind, law[0], law[1]));
        }
    }

    private static void powerBarsPowersOrMore() {
        CHECK.says("Terms 2", "each whose POWER is p/q or more");
        clashes(benchBy(POWER, 2, 1), 1, "0101", 4, 0, 4);
        isKept(benchBy(POWER, 2, 1), 1, "0102010");
        clashes(benchBy(POWER, 3, 2), 1, "010", 3, 0, 3);
        isKept(benchBy(POWER, 3, 2), 1, "0120");
        clashes(benchBy(POWER, 5, 3), 1, "012012", 5, 0, 5);
        clashes(benchBy(POWER, 7, 4), 1, "012012", 6, 0, 6);
        isKept(benchBy(POWER, 7, 4), 1, "01201");
        clashes(benchBy(POWER, 30, 29), 1, "01234560", 8, 0, 8);
        isKept(benchBy(POWER, 30, 29), 1, "01234567");
        clashes(benchBy(POWER, 30, 1), 1, "0".repeat(60), 30, 0, 30);
        isKept(benchBy(POWER, 30, 1), 1, "0".repeat(29));
        clashes(benchBy(POWER, 30, 1), 1, "01".repeat(30), 60, 0, 60);
        isKept(benchBy(POWER, 30, 1), 1, "1" + "01".repeat(29));
        clashes(benchBy(POWER, 2, 1), 1, HALF + HALF, 60, 0, 60);
        isKept(benchBy(POWER, 2, 1), 1, (HALF + HALF).substring(0, 59));
    }

    private static void aboveBarsPowersThatAreMore() {
        CHECK.says("Terms 2", "each whose POWER is more than p/q");
        clashes(benchBy(ABOVE, 2, 1), 1, "01010", 5, 0, 5);
        isKept(benchBy(ABOVE, 2, 1), 1, "010110");
        clashes(benchBy(ABOVE, 1, 1), 1, "00", 2, 0, 2);
        clashes(benchBy(ABOVE, 30, 30), 1, "0123450", 7, 0, 7);
        isKept(benchBy(ABOVE, 1, 1), 1, "01234567");
        isKept(benchBy(ABOVE, 3, 2), 1, "010");
        clashes(benchBy(ABOVE, 3, 2), 1, "0100", 4, 0, 2);
        clashes(benchBy(ABOVE, 30, 1), 1, "0".repeat(60), 31, 0, 31);
        isKept(benchBy(ABOVE, 30, 1), 1, "0".repeat(30));
        isKept(benchBy(ABOVE, 30, 1), 1, "01".repeat(30));
        isKept(benchBy(ABOVE, 2, 1), 1, HALF + HALF);
        clashes(benchBy(ABOVE, 29, 1), 1, "01".repeat(30), 59, 0, 59);
    }

    private static void nearBarsHalvesThatDifferSoOften() {
        CHECK.says("Terms 2", "each of two halves of one length m, that differ in at most d places");
        clashes(benchBy(NEAR, 0, 0), 1, "0101", 4, 0, 4);
        isKept(benchBy(NEAR, 0, 0), 1, "0102");
        clashes(benchBy(NEAR, 1, 0), 1, "0102", 4, 0, 4);
        isKept(benchBy(NEAR, 1, 0), 1, "012034");
        clashes(benchBy(NEAR, 2, 0), 1, "012034", 6, 0, 6);
        clashes(benchBy(NEAR, 3, 0), 1, "01230456", 8, 0, 8);
        isKept(benchBy(NEAR, 2, 0), 1, "01230456");
        clashes(benchBy(NEAR, 3, 0), 1, NEAR_WORD, 60, 0, 60);
        isKept(benchBy(NEAR, 2, 0), 1, NEAR_WORD);
        isKept(benchBy(NEAR, 3, 0), 1, NEAR_WORD.substring(0, 44) + "6" + NEAR_WORD.substring(45));
        isKept(benchBy(NEAR, 3, 0), 1, NEAR_WORD.substring(0, 59));
        clashes(benchBy(NEAR, 0, 0), 1, HALF + HALF, 60, 0, 60);
    }

    private static void nearHalvesAreAlikeSomewhere() {
        CHECK.says("Terms 2", "and in fewer than m");
        for (int d = 0; d <= 9; d++) {
            WordBench bench = benchBy(NEAR, d, 0);
            isKept(bench, 1, "01");
            clashes(bench, 1, "00", 2, 0, 2);
            isKept(bench, 1, "0123");
            isKept(bench, 1, "01234567");
        }
        clashes(benchBy(NEAR, 9, 0), 1, "0123456701234567", 16, 0, 16);
        isKept(benchBy(NEAR, 9, 0), 1, "012345670123456");
        clashes(benchBy(NEAR, 9, 0), 1, "012345675", 9, 0, 6);
    }

    private static void turnedBarsHalvesWithTheSameLetters() {
        CHECK.says("Terms 2", "TURNED: each of two halves that have each LETTER as often as the other");
        WordBench bench = benchBy(TURNED, 0, 0);
        clashes(bench, 1, "77", 2, 0, 2);
        clashes(bench, 1, "0110", 3, 0, 2);
        clashes(bench, 1, "27070", 5, 0, 4);
        clashes(bench, 1, "012021", 6, 0, 6);
        isKept(bench, 1, "0102010");
        isKept(bench, 1, "01234567");
        clashes(bench, 1, TURNED_WORD, 60, 0, 60);
        isKept(bench, 1, TURNED_WORD.substring(0, 59) + "5");
        isKept(bench, 1, TURNED_WORD.substring(0, 59));
        isKept(bench, 1, TURNED_WORD.substring(1));
    }

    private static void shapesHaveOneToSixLetters() {
        CHECK.says("Terms 2", "SHAPE: a told WORD (1 to 6 letters, 0 to 2 alone: UNKNOWNS)");
        for (String told : new String[] {"0", "1", "2", "012012", "222222", "210210"}) {
            benchByLetters(SHAPE, told);
        }
        for (String told : new String[] {"", "0120120", "0000000", "3", "012013", "300000", "7", "0".repeat(60)}) {
            WordBench bench = Check.benchWithSheet();
            Check.fill(bench, 0, 0, told);
            CHECK.due(-1, "shape " + told, () -> bench.law(SHAPE, 0, 0));
            CHECK.due(0, "laws", () -> bench.count(1));
        }
    }

    private static void shapesBarWhatComesOfThem() {
        CHECK.says("Terms 2", "each that comes of it with some WORD, not empty, in the place of each UNKNOWN");
        clashes(benchByLetters(SHAPE, "0"), 1, "65", 1, 0, 1);
        isKept(benchByLetters(SHAPE, "01"), 1, "6");
        clashes(benchByLetters(SHAPE, "01"), 1, "65", 2, 0, 2);
        isKept(benchByLetters(SHAPE, "010"), 1, "0011");
        clashes(benchByLetters(SHAPE, "010"), 1, "0010", 4, 0, 3);
        clashes(benchByLetters(SHAPE, "010"), 1, "0123456770", 10, 0, 10);
        clashes(benchByLetters(SHAPE, "012012"), 1, "345345", 6, 0, 6);
        isKept(benchByLetters(SHAPE, "012012"), 1, "3434");
        clashes(benchByLetters(SHAPE, "222222"), 1, "4".repeat(60), 6, 0, 6);
        clashes(benchByLetters(SHAPE, "000000"), 1, "0123401234".repeat(3), 30, 0, 30);
        clashes(benchByLetters(SHAPE, "000000"), 1, "0123456701".repeat(6), 60, 0, 60);
        clashes(benchByLetters(SHAPE, "11"), 1, HALF + HALF, 60, 0, 60);
        isKept(benchByLetters(SHAPE, "11"), 1, (HALF + HALF).substring(0, 59));
    }

    private static void sameUnknownsGetTheSameWord() {
        CHECK.says("Terms 2", "the same one for the same");
        WordBench bench = benchByLetters(SHAPE, "0110");
        clashes(bench, 1, "3425253456", 8, 0, 8);
        isKept(bench, 1, "34252533");
        clashes(bench, 1, "0000", 4, 0, 4);
        clashes(benchByLetters(SHAPE, "0102"), 1, "1112", 4, 0, 4);
    }

    private static void setsAreToldByBits() {
        CHECK.says("Terms 2", "A set of LAWS is told by bits. A WORD is KEPT by it if no LAW of it BARS a SPAN");
        WordBench bench = Check.benchWithSheet();
        for (int i = 0; i < 12; i++) {
            Check.fill(bench, 0, 0, i / 2, i % 2);
            CHECK.due(i, "law", () -> bench.law(TOLD, 0, 0));
        }
        Check.fill(bench, 0, 0, "4151");
        for (int bit = 0; bit < 12; bit++) {
            int set = 1 << bit;
            int law = bit;
            boolean bars = bit == 9 || bit == 11;
            CHECK.due(bars ? 0 : 1, "bit " + bit, () -> bench.clash(set, 0, 0, 0));
            CHECK.due(bars ? law : -1, "law " + bit, () -> bench.clash(set, 0, 0, 2));
        }
        CHECK.due(9, "all bits", () -> bench.clash(4095, 0, 0, 2));
        CHECK.due(11, "all but bit 9", () -> bench.clash(4095 - 512, 0, 0, 2));
        CHECK.due(1, "all but bits 9 and 11", () -> bench.clash(4095 - 512 - 2048, 0, 0, 0));
    }

    private static void theEmptyWordIsKept() {
        CHECK.says("Terms 2", "The empty WORD is KEPT");
        WordBench bench = benchByLetters(SHAPE, "0");
        isKept(bench, 1, "");
        bench.tear(0, 9);
        CHECK.due(1, "a missing row", () -> bench.clash(1, 0, 9, 0));
    }

    private static void theEmptySetKeepsAll() {
        CHECK.says("Terms 2", "by the empty set all are");
        WordBench bench = benchByLetters(SHAPE, "0");
        isKept(bench, 0, "0".repeat(60));
        isKept(bench, 0, "");
        WordBench lawless = Check.benchWithSheet();
        isKept(lawless, 0, "77");
    }

    private static void clashIsTheLeastNumberOfLetters() {
        CHECK.says("Terms 2", "the least number c such that its first c letters are not KEPT");
        WordBench bench = benchBy(POWER, 2, 1);
        bench.law(NEAR, 1, 0);
        clashes(bench, 1, "0012233", 2, 0, 2);
        clashes(bench, 1, "0100", 4, 0, 2);
        clashes(bench, 3, "01021", 4, 1, 4);
        clashes(bench, 1, "0102011", 7, 0, 2);
        clashes(bench, 1, HALF + "1" + HALF.substring(1), 31, 0, 2);
    }

    private static void clashIsByTheLawWithTheLeastNumber() {
        CHECK.says("Terms 2", "of the LAWS that BAR a SPAN of these that ends with the last one of them the one with "
                + "the least number");
        WordBench bench = benchByLetters(TOLD, "20101");
        bench.law(POWER, 2, 1);
        bench.law(ABOVE, 1, 1);
        clashes(bench, 3, "201011", 5, 0, 5);
        clashes(bench, 2, "201011", 5, 1, 4);
        clashes(bench, 7, "201011", 4, 2, 3);
        clashes(bench, 6, "2011", 4, 1, 2);
        clashes(bench, 5, "2011", 4, 2, 2);
    }

    private static void clashIsTheShortestSpan() {
        CHECK.says("Terms 2", "of the SPANS that this one BARS there the shortest");
        clashes(benchByLetters(SHAPE, "010"), 1, "0010", 4, 0, 3);
        clashes(benchByLetters(SHAPE, "0"), 1, "0010", 1, 0, 1);
        clashes(benchBy(NEAR, 1, 0), 1, "0100", 4, 0, 2);
        clashes(benchBy(NEAR, 1, 0), 1, "012010", 6, 0, 4);
        clashes(benchBy(POWER, 4, 3), 1, "01234101", 8, 0, 3);
        clashes(benchBy(TURNED, 0, 0), 1, "3202101322", 10, 0, 2);
    }

    private static void lawKeepsItsWord() {
        CHECK.says("Promise 8", "of KINDS 0, 5 the WORD of ROW b of SHEET a");
        WordBench bench = Check.benchWithSheet();
        bench.sheet(0);
        Check.fill(bench, 0, 2, "01");
        Check.fill(bench, 1, 2, "12");
        Check.fill(bench, 1, 0, "00");
        CHECK.due(0, "told", () -> bench.law(TOLD, 1, 2));
        CHECK.due(1, "shape", () -> bench.law(SHAPE, 1, 0));
        bench.tear(1, 2);
        Check.fill(bench, 1, 0, "0");
        clashes(bench, 1, "012", 3, 0, 2);
        clashes(bench, 2, "011", 3, 1, 2);
    }

    private static void lawTellsItsNumber() {
        CHECK.says("Promise 8", "of 1, 2 p = a, q = b; of 3 d = a (b 0); of 4 a and b 0: its number");
        WordBench bench = benchBy(POWER, 2, 1);
        CHECK.due(1, "above", () -> bench.law(ABOVE, 2, 1));
        CHECK.due(2, "near", () -> bench.law(NEAR, 1, 0));
        CHECK.due(3, "turned", () -> bench.law(TURNED, 0, 0));
        CHECK.due(4, "the same again", () -> bench.law(POWER, 2, 1));
        CHECK.due(5, "laws", () -> bench.count(1));
    }

    private static void rowsThatAreNoSuchWord() {
        CHECK.says("Promise 8", "-1: the ROW is no such WORD");
        WordBench bench = Check.benchWithSheet();
        bench.row(0, 1, 0);
        bench.row(0, 2, 61);
        Check.fill(bench, 0, 3, 0, 8);
        Check.fill(bench, 0, 4, -1, 0);
        for (int k : new int[] {0, 1, 2, 3, 4}) {
            CHECK.due(-1, "told by row " + k, () -> bench.law(TOLD, 0, k));
            CHECK.due(-1, "shape by row " + k, () -> bench.law(SHAPE, 0, k));
        }
        Check.fill(bench, 0, 5, "3");
        CHECK.due(-1, "shape by 3", () -> bench.law(SHAPE, 0, 5));
        CHECK.due(0, "laws", () -> bench.count(1));
        CHECK.due(0, "told by 3", () -> bench.law(TOLD, 0, 5));
    }

    private static void twelveLawsAndNoMore() {
        CHECK.says("Promise 8", "-2: there are 12");
        WordBench bench = Check.benchWithSheet();
        Check.fill(bench, 0, 1, "1");
        for (int i = 0; i < 11; i++) {
            bench.law(TURNED, 0, 0);
        }
        CHECK.due(11, "the last law", () -> bench.law(SHAPE, 0, 1));
        CHECK.due(-2, "told", () -> bench.law(TOLD, 0, 1));
        CHECK.due(-2, "power", () -> bench.law(POWER, 2, 1));
        CHECK.due(-2, "above", () -> bench.law(ABOVE, 2, 1));
        CHECK.due(-2, "near", () -> bench.law(NEAR, 0, 0));
        CHECK.due(-2, "turned", () -> bench.law(TURNED, 0, 0));
        CHECK.due(-2, "shape", () -> bench.law(SHAPE, 0, 1));
        CHECK.due(-1, "no such word comes first", () -> bench.law(TOLD, 0, 0));
        CHECK.argumentRefused("no such numbers come first", () -> bench.law(POWER, 1, 1));
        CHECK.placeRefused("no such row comes first", () -> bench.law(SHAPE, 0, 10));
        CHECK.due(12, "laws", () -> bench.count(1));
    }

    private static void otherKindsAreRefused() {
        CHECK.says("Promise 8", "IllegalArgumentException: no such KIND");
        WordBench bench = Check.benchWithSheet();
        Check.fill(bench, 0, 1, "1");
        for (int kind : new int[] {-1, 6, LEAST, MOST}) {
            CHECK.argumentRefused("kind " + kind, () -> bench.law(kind, 0, 0));
            CHECK.argumentRefused("kind " + kind, () -> bench.law(kind, 0, 1));
            CHECK.argumentRefused("kind " + kind + " comes first", () -> bench.law(kind, 99, 99));
        }
        CHECK.due(0, "laws", () -> bench.count(1));
    }

    private static void otherNumbersAreRefused() {
        CHECK.says("Promise 8", "or others than these a and b of 1 to 4");
        WordBench bench = new WordBench();
        int[][] wrong = {{POWER, 2, 2}, {ABOVE, 1, 2}, {NEAR, 0, 1}, {NEAR, 1, -1}, {NEAR, 9, 1}, {TURNED, 1, 0},
            {TURNED, 0, 1}, {TURNED, -1, 0}, {TURNED, 0, -1}, {TURNED, LEAST, MOST}};
        for (int[] law : wrong) {
            CHECK.argumentRefused("kind " + law[0] + ": " + law[1] + ", " + law[2],
                    () -> bench.law(law[0], law[1], law[2]));
        }
        CHECK.due(0, "laws", () -> bench.count(1));
        CHECK.due(0, "turned, without any sheet", () -> bench.law(TURNED, 0, 0));
    }

    private static void lawOfNoSuchRow() {
        CHECK.says("Promise 8", "IndexOutOfBoundsException: of 0, 5, likewise");
        WordBench bench = Check.benchWithSheet();
        int[][] wrong = {{-1, 0}, {1, 0}, {16, 0}, {0, -1}, {0, 10}, {LEAST, 0}, {0, MOST}};
        for (int[] place : wrong) {
            CHECK.placeRefused("told", () -> bench.law(TOLD, place[0], place[1]));
            CHECK.placeRefused("shape", () -> bench.law(SHAPE, place[0], place[1]));
        }
        Check.fill(bench, 0, 9, "1");
        CHECK.due(0, "told by row 9", () -> bench.law(TOLD, 0, 9));
        CHECK.due(1, "shape by row 9", () -> bench.law(SHAPE, 0, 9));
    }

    private static void countOfSheetsAndLaws() {
        CHECK.says("Promise 9", "0 SHEETS, 1 LAWS");
        WordBench bench = new WordBench();
        for (int i = 1; i <= 12; i++) {
            bench.sheet(0);
            bench.law(TURNED, 0, 0);
            CHECK.due(i, "sheets", () -> bench.count(0));
            CHECK.due(i, "laws", () -> bench.count(1));
        }
        bench.sheet(2);
        CHECK.due(13, "sheets", () -> bench.count(0));
        CHECK.due(12, "laws", () -> bench.count(1));
    }

    private static void countOfLooks() {
        CHECK.says("Promise 9", "2 LOOKS of the latest call that SEARCHED (0 ahead of any");
        WordBench bench = benchBy(POWER, 2, 1);
        CHECK.looks(bench, 0);
        bench.clash(1, 0, 0, 0);
        CHECK.looks(bench, 0);
        bench.many(1, 2, 2);
        CHECK.looks(bench, 7);
        bench.many(1, 2, 1);
        CHECK.looks(bench, 3);
        bench.longest(1, 1);
        CHECK.looks(bench, 3);
        bench.find(1, 8, 0, 0, 0);
        CHECK.looks(bench, 1);
    }

    private static void countOfLooksWhenSpent() {
        CHECK.says("Promise 9", "what it took when it ended, or was SPENT)");
        WordBench bench = benchByLetters(SHAPE, "0");
        bench.many(0, 2, 60);
        CHECK.looks(bench, 20000);
        bench.longest(1, 2);
        CHECK.looks(bench, 30);
    }

    private static void countOfOthers() {
        CHECK.says("Promise 9", "NONE for others");
        WordBench bench = benchBy(POWER, 2, 1);
        for (int what : new int[] {-1, 3, 4, LEAST, MOST}) {
            CHECK.due(WordBench.NONE, "count " + what, () -> bench.count(what));
        }
    }

    private static void clashTellsFourThings() {
        CHECK.says("Promise 12", "0 whether it is KEPT (1, 0), 1 CLASH's number of letters, 2 its LAW, 3 how long "
                + "its SPAN is (1 to 3: NONE, if it is KEPT)");
        WordBench bench = benchByLetters(TOLD, "7");
        bench.law(POWER, 2, 1);
        clashes(bench, 3, "012121", 5, 1, 4);
        clashes(bench, 3, "0127", 4, 0, 1);
        isKept(bench, 3, "0120");
        isKept(bench, 2, "7");
    }

    private static void clashOfNoWord() {
        CHECK.says("Promise 12", "-2: it is no WORD");
        WordBench bench = benchBy(POWER, 2, 1);
        bench.row(0, 1, 61);
        Check.fill(bench, 0, 2, NO_LETTER);
        for (int what : new int[] {0, 1, 2, 3}) {
            CHECK.due(-2, "a row of 61", () -> bench.clash(1, 0, 1, what));
            CHECK.due(-2, "a row with 8", () -> bench.clash(0, 0, 2, what));
        }
    }

    private static void clashByNoLaw() {
        CHECK.says("Promise 12", "IllegalArgumentException: a bit of the set is no LAW");
        WordBench bench = benchBy(POWER, 2, 1);
        Check.fill(bench, 0, 2, NO_LETTER);
        for (int set : new int[] {2, 3, 4, 4096, 1 << 30, LEAST, LEAST + 1, -1, MOST}) {
            CHECK.argumentRefused("set " + set, () -> bench.clash(set, 0, 0, 0));
            CHECK.argumentRefused("set " + set + " of no word", () -> bench.clash(set, 0, 2, 0));
        }
    }

    private static void clashOfNoSuchWhat() {
        CHECK.says("Promise 12", "or no such what");
        WordBench bench = benchBy(POWER, 2, 1);
        Check.fill(bench, 0, 2, NO_LETTER);
        for (int what : new int[] {-1, 4, LEAST, MOST}) {
            CHECK.argumentRefused("what " + what, () -> bench.clash(1, 0, 0, what));
            CHECK.argumentRefused("what " + what + " of no word", () -> bench.clash(1, 0, 2, what));
        }
    }

    private static void clashOfNoSuchRow() {
        CHECK.says("Promise 12", "throws IndexOutOfBoundsException, IllegalArgumentException");
        WordBench bench = benchBy(POWER, 2, 1);
        int[][] wrong = {{-1, 0}, {1, 0}, {16, 0}, {0, -1}, {0, 10}};
        for (int[] place : wrong) {
            CHECK.placeRefused("clash", () -> bench.clash(1, place[0], place[1], 0));
            CHECK.placeRefused("ahead of the set", () -> bench.clash(2, place[0], place[1], 0));
            CHECK.placeRefused("ahead of the what", () -> bench.clash(1, place[0], place[1], 4));
        }
    }

    private static void terms() {
        lawsAreTwelve();
        toldBarsThatAlone();
        toldWordsOfSixty();
        powersAreToldByOneToThirty();
        abovesAreToldByOneToThirty();
        nearsAreToldByNoneToNine();
        powerBarsPowersOrMore();
        aboveBarsPowersThatAreMore();
        nearBarsHalvesThatDifferSoOften();
        nearHalvesAreAlikeSomewhere();
        turnedBarsHalvesWithTheSameLetters();
        shapesHaveOneToSixLetters();
        shapesBarWhatComesOfThem();
        sameUnknownsGetTheSameWord();
        setsAreToldByBits();
        theEmptyWordIsKept();
        theEmptySetKeepsAll();
        clashIsTheLeastNumberOfLetters();
        clashIsByTheLawWithTheLeastNumber();
        clashIsTheShortestSpan();
    }

    public static void main(String[] args) {
        terms();
        lawKeepsItsWord();
        lawTellsItsNumber();
        rowsThatAreNoSuchWord();
        twelveLawsAndNoMore();
        otherKindsAreRefused();
        otherNumbersAreRefused();
        lawOfNoSuchRow();
        countOfSheetsAndLaws();
        countOfLooks();
        countOfLooksWhenSpent();
        countOfOthers();
        clashTellsFourThings();
        clashOfNoWord();
        clashByNoLaw();
        clashOfNoSuchWhat();
        clashOfNoSuchRow();
        CHECK.end();
    }
}
