/** PERIOD, POWER and RUNS of the terms, and promises 10 and 11: power, run. */
public final class PowersTest {
    private static final Check CHECK = new Check("PowersTest");
    private static final int LEAST = Integer.MIN_VALUE;
    private static final int MOST = Integer.MAX_VALUE;

    private static WordBench benchWith(String word) {
        WordBench bench = Check.benchWithSheet();
        Check.fill(bench, 0, 0, word);
        return bench;
    }

    private static void power(String word, int period, int upper, int lower) {
        WordBench bench = benchWith(word);
        CHECK.due(period, word + ", least period", () -> bench.power(0, 0, 0));
        CHECK.due(upper, word + ", upper number", () -> bench.power(0, 0, 1));
        CHECK.due(lower, word + ", lower number", () -> bench.power(0, 0, 2));
    }

    private static int[] run(int i, int j, int p) {
        return new int[] {i, j, p};
    }

    /** A word's RUNS are these, and there are none ahead of them or behind. */
    private static void runs(String word, int[]... runs) {
        WordBench bench = benchWith(word);
        CHECK.due(runs.length, word + ", runs", () -> bench.power(0, 0, 3));
        for (int what : new int[] {0, 1, 2}) {
            for (int r = 0; r < runs.length; r++) {
                int number = r;
                CHECK.due(runs[r][what], word + ", what " + what + " of run " + r,
                        () -> bench.run(0, 0, number, what));
            }
            CHECK.due(-1, word + ", a run more", () -> bench.run(0, 0, runs.length, what));
            CHECK.due(-1, word + ", run -1", () -> bench.run(0, 0, -1, what));
        }
    }

    private static void periodsAreOneToAllLetters() {
        CHECK.says("Terms 1", "A PERIOD of a WORD of n letters: p, 1 to n");
        power("5", 1, 1, 1);
        power("01", 2, 1, 1);
        power("01234567", 8, 1, 1);
        power("0001", 4, 1, 1);
        power("0".repeat(59) + "1", 60, 1, 1);
        power("1" + "0".repeat(58) + "1", 59, 60, 59);
        power("0".repeat(60), 1, 60, 1);
    }

    private static void lettersWithNoneBehindThemAreFree() {
        CHECK.says("Terms 1", "each letter and the one p places behind it (where there is one) are alike");
        power("010", 2, 3, 2);
        power("01201", 3, 5, 3);
        power("01202", 5, 1, 1);
        power("0110", 3, 4, 3);
        power("0010", 3, 4, 3);
        power("0100", 3, 4, 3);
    }

    private static void powerIsInLowestTerms() {
        CHECK.says("Promise 10", "0 its least PERIOD, 1, 2 its POWER in lowest terms (upper, lower number)");
        power("00", 1, 2, 1);
        power("0101", 2, 2, 1);
        power("011201", 4, 3, 2);
        power("01234501", 6, 4, 3);
        power("01201201", 3, 8, 3);
        power("01".repeat(30), 2, 30, 1);
        power("0123456".repeat(9).substring(0, 60), 7, 60, 7);
        power("01234567".repeat(8).substring(0, 60), 8, 15, 2);
        power("01".repeat(15) + "2" + "01".repeat(14) + "0", 31, 60, 31);
        power("0".repeat(29) + "1" + "0".repeat(30), 31, 60, 31);
        power("0".repeat(29) + "1" + "0".repeat(29) + "1", 30, 2, 1);
    }

    private static void powerTellsHowManyRuns() {
        CHECK.says("Promise 10", "3 its RUNS");
        runs("7");
        runs("01020103");
        runs("0011", run(0, 2, 1), run(2, 4, 1));
        runs("0".repeat(60), run(0, 60, 1));
    }

    private static void runsHaveTwoPeriodsAtTheLeast() {
        CHECK.says("Terms 2", "SPANS from letter i up to, not with, j, with the least PERIOD p, j - i not below 2 p");
        runs("0");
        runs("00", run(0, 2, 1));
        runs("010");
        runs("0101", run(0, 4, 2));
        runs("01201");
        runs("012012", run(0, 6, 3));
        runs("0".repeat(29) + "1" + "0".repeat(29), run(0, 29, 1), run(30, 59, 1));
        runs("0".repeat(29) + "1" + "0".repeat(29) + "1", run(0, 29, 1), run(0, 60, 30), run(30, 59, 1));
    }

    private static void runsAreOfTheLeastPeriodAlone() {
        CHECK.says("Terms 2", "with the least PERIOD p");
        runs("0000", run(0, 4, 1));
        runs("01010101", run(0, 8, 2));
        runs("001001001001", run(0, 2, 1), run(0, 12, 3), run(3, 5, 1), run(6, 8, 1), run(9, 11, 1));
    }

    private static void runsEndWhereTheirPeriodEnds() {
        CHECK.says("Terms 2", "such that one letter more at either side (where there is one) would end PERIOD p");
        runs("201012", run(1, 5, 2));
        runs("20101", run(1, 5, 2));
        runs("01012", run(0, 4, 2));
        runs("01010", run(0, 5, 2));
        runs("2000", run(1, 4, 1));
        runs("0002", run(0, 3, 1));
        runs("0120120", run(0, 7, 3));
        runs("2" + "0".repeat(59), run(1, 60, 1));
        runs("0".repeat(59) + "2", run(0, 59, 1));
    }

    private static void runsComeInOrder() {
        CHECK.says("Terms 2", "in order of i, then of p");
        runs("0010011", run(0, 2, 1), run(0, 6, 3), run(3, 5, 1), run(5, 7, 1));
        runs("01011011", run(0, 4, 2), run(1, 8, 3), run(3, 5, 1), run(6, 8, 1));
        runs("00100101", run(0, 2, 1), run(0, 7, 3), run(3, 5, 1), run(4, 8, 2));
    }

    private static void powerOfNoWord() {
        CHECK.says("Promise 10", "-1: it is no WORD");
        WordBench bench = Check.benchWithSheet();
        Check.fill(bench, 0, 0, 8);
        Check.fill(bench, 0, 1, 0, 0, -1);
        bench.row(0, 2, 61);
        for (int what : new int[] {0, 1, 2, 3}) {
            for (int k : new int[] {0, 1, 2}) {
                CHECK.due(-1, "row " + k + ", what " + what, () -> bench.power(0, k, what));
            }
        }
    }

    private static void powerOfTheEmptyWord() {
        CHECK.says("Promise 10", "0 of an empty one");
        WordBench bench = Check.benchWithSheet();
        bench.row(0, 1, 0);
        for (int what : new int[] {0, 1, 2, 3}) {
            CHECK.due(0, "a missing row, what " + what, () -> bench.power(0, 0, what));
            CHECK.due(0, "a row of none, what " + what, () -> bench.power(0, 1, what));
        }
    }

    private static void powerOfNoSuchWhat() {
        CHECK.says("Promise 10", "IllegalArgumentException: no such what");
        WordBench bench = benchWith("00");
        Check.fill(bench, 0, 1, 8);
        for (int what : new int[] {-1, 4, LEAST, MOST}) {
            for (int k : new int[] {0, 1, 2}) {
                CHECK.argumentRefused("row " + k + ", what " + what, () -> bench.power(0, k, what));
            }
        }
    }

    private static void noSuchSheetOrRow() {
        CHECK.says("Promises 10, 11", "throws IndexOutOfBoundsException, IllegalArgumentException");
        WordBench bench = benchWith("00");
        int[][] wrong = {{-1, 0}, {1, 0}, {16, 0}, {0, -1}, {0, 10}};
        for (int[] place : wrong) {
            CHECK.placeRefused("power", () -> bench.power(place[0], place[1], 0));
            CHECK.placeRefused("power, ahead of the what", () -> bench.power(place[0], place[1], 4));
            CHECK.placeRefused("run", () -> bench.run(place[0], place[1], 0, 0));
            CHECK.placeRefused("run, ahead of the what", () -> bench.run(place[0], place[1], 0, 3));
        }
    }

    private static void runThatIsNotThere() {
        CHECK.says("Promise 11", "-1 without one, or if the ROW is no WORD");
        WordBench bench = benchWith("0011");
        Check.fill(bench, 0, 1, 0, 0, 8);
        bench.row(0, 2, 61);
        for (int what : new int[] {0, 1, 2}) {
            for (int r : new int[] {-1, 2, 3, LEAST, MOST}) {
                CHECK.due(-1, "run " + r, () -> bench.run(0, 0, r, what));
            }
            for (int k : new int[] {1, 2, 3}) {
                CHECK.due(-1, "run 0 of row " + k, () -> bench.run(0, k, 0, what));
                CHECK.due(-1, "run -1 of row " + k, () -> bench.run(0, k, -1, what));
            }
        }
    }

    private static void runOfNoSuchWhat() {
        CHECK.says("Promise 11", "IllegalArgumentException: no such what");
        WordBench bench = benchWith("00");
        Check.fill(bench, 0, 1, 8);
        for (int what : new int[] {-1, 3, LEAST, MOST}) {
            CHECK.argumentRefused("what " + what, () -> bench.run(0, 0, 0, what));
            CHECK.argumentRefused("what " + what + " of no run", () -> bench.run(0, 0, -1, what));
            CHECK.argumentRefused("what " + what + " of no word", () -> bench.run(0, 1, 0, what));
            CHECK.argumentRefused("what " + what + " of a missing row", () -> bench.run(0, 2, 0, what));
        }
    }

    public static void main(String[] args) {
        periodsAreOneToAllLetters();
        lettersWithNoneBehindThemAreFree();
        powerIsInLowestTerms();
        powerTellsHowManyRuns();
        runsHaveTwoPeriodsAtTheLeast();
        runsAreOfTheLeastPeriodAlone();
        runsEndWhereTheirPeriodEnds();
        runsComeInOrder();
        powerOfNoWord();
        powerOfTheEmptyWord();
        powerOfNoSuchWhat();
        noSuchSheetOrRow();
        runThatIsNotThere();
        runOfNoSuchWhat();
        CHECK.end();
    }
}
