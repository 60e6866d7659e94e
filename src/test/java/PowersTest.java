/** Promises 10 and 11: power, run. */
public final class PowersTest {
    private static final Check CHECK = new Check("PowersTest");

    private static void powers(int period, int upper, int lower, int... word) {
        WordBench bench = Check.benchWithSheet();
        Check.fill(bench, 0, 0, word);
        CHECK.due(period, "least period", () -> bench.power(0, 0, 0));
        CHECK.due(upper, "upper number", () -> bench.power(0, 0, 1));
        CHECK.due(lower, "lower number", () -> bench.power(0, 0, 2));
    }

    /** The RUNS of a word, each told by i, j, p. */
    private static void runs(int[] word, int[]... runs) {
        WordBench bench = Check.benchWithSheet();
        Check.fill(bench, 0, 0, word);
        CHECK.due(runs.length, "runs", () -> bench.power(0, 0, 3));
        for (int r = 0; r < runs.length; r++) {
            for (int what = 0; what < 3; what++) {
                int number = r;
                int asked = what;
                CHECK.due(runs[r][what], "what " + what + " of run " + r, () -> bench.run(0, 0, number, asked));
            }
        }
        CHECK.due(-1, "a run beyond", () -> bench.run(0, 0, runs.length, 0));
        CHECK.due(-1, "run -1", () -> bench.run(0, 0, -1, 0));
    }

    private static int[] row(int... numbers) {
        return numbers;
    }

    private static void wrongInputs() {
        WordBench bench = Check.benchWithSheet();
        Check.fill(bench, 0, 1, 8);
        for (int what = 0; what < 4; what++) {
            int asked = what;
            CHECK.due(0, "power of the empty word", () -> bench.power(0, 0, asked));
            CHECK.due(-1, "power of no word", () -> bench.power(0, 1, asked));
        }
        CHECK.due(-1, "run of the empty word", () -> bench.run(0, 0, 0, 0));
        CHECK.due(-1, "run of no word", () -> bench.run(0, 1, 0, 0));
        CHECK.due(-1, "run -1 of no word", () -> bench.run(0, 1, -1, 0));
        for (int k = 0; k < 2; k++) {
            int row = k;
            CHECK.argumentRefused("power, what -1", () -> bench.power(0, row, -1));
            CHECK.argumentRefused("power, what 4", () -> bench.power(0, row, 4));
            CHECK.argumentRefused("run, what -1", () -> bench.run(0, row, 0, -1));
            CHECK.argumentRefused("run, what 3", () -> bench.run(0, row, 0, 3));
        }
        CHECK.placeRefused("power, no such row ahead of what", () -> bench.power(0, 10, 4));
        CHECK.placeRefused("run, no such sheet ahead of what", () -> bench.run(1, 0, 0, 3));
    }

    public static void main(String[] args) {
        powers(1, 1, 1, 5);
        powers(1, 4, 1, 5, 5, 5, 5);
        powers(2, 3, 2, 0, 1, 0);
        powers(3, 8, 3, 0, 1, 2, 0, 1, 2, 0, 1);
        powers(4, 3, 2, 0, 1, 1, 2, 0, 1);
        powers(3, 1, 1, 0, 1, 2);
        powers(6, 4, 3, 0, 1, 2, 3, 4, 5, 0, 1);
        powers(1, 60, 1, new int[60]);
        runs(row(0));
        runs(row(0, 1, 2, 0, 1));
        runs(row(0, 0), row(0, 2, 1));
        runs(row(0, 1, 0, 1, 0), row(0, 5, 2));
        runs(row(0, 0, 1, 0, 0, 1, 1), row(0, 2, 1), row(0, 6, 3), row(3, 5, 1), row(5, 7, 1));
        runs(row(0, 0, 0, 0), row(0, 4, 1));
        runs(row(2, 0, 1, 0, 1, 2), row(1, 5, 2));
        runs(row(0, 1, 0, 1, 1, 0, 1, 1), row(0, 4, 2), row(1, 8, 3), row(3, 5, 1), row(6, 8, 1));
        wrongInputs();
        CHECK.end();
    }
}
