/** Promise 21: shape. */
public final class ShapesTest {
    private static final Check CHECK = new Check("ShapesTest");

    private static WordBench benchWithShape(String told) {
        WordBench bench = Check.benchWithSheet();
        Check.fill(bench, 0, 0, told.chars().map(sign -> sign - '0').toArray());
        CHECK.due(0, "law " + told, () -> bench.law(5, 0, 0));
        return bench;
    }

    private static void unavoidable(String told, int... steps) {
        WordBench bench = benchWithShape(told);
        CHECK.due(1, told + " unavoidable", () -> bench.shape(0, 0));
        CHECK.due(1, told + " in Zimin's row", () -> bench.shape(0, 1));
        CHECK.due(steps.length, told + "'s steps", () -> bench.shape(0, 2));
        for (int i = 0; i < steps.length; i++) {
            int what = i + 3;
            CHECK.due(steps[i], "step " + i + " of " + told, () -> bench.shape(0, what));
        }
        CHECK.due(0, "a step more", () -> bench.shape(0, 3 + steps.length));
        CHECK.due(0, "a step far out", () -> bench.shape(0, Integer.MAX_VALUE));
    }

    private static void avoidable(String told) {
        WordBench bench = benchWithShape(told);
        for (int what = 0; what < 8; what++) {
            int asked = what;
            CHECK.due(0, told + ", what " + what, () -> bench.shape(0, asked));
        }
    }

    /** The two ways of the document must tell the same of every SHAPE. */
    private static void bothWaysAgree() {
        for (int size = 1; size <= 6; size++) {
            for (int number = 0; number < Math.pow(3, size); number++) {
                String told = Integer.toString(number, 3);
                WordBench bench = benchWithShape("0".repeat(size - told.length()) + told);
                CHECK.due(bench.shape(0, 0), told + " in Zimin's row", () -> bench.shape(0, 1));
            }
        }
    }

    private static void wrongInputs() {
        WordBench bench = benchWithShape("010");
        bench.law(4, 0, 0);
        for (int what = 0; what < 5; what++) {
            int asked = what;
            CHECK.due(-1, "no shape", () -> bench.shape(1, asked));
        }
        CHECK.argumentRefused("what -1", () -> bench.shape(0, -1));
        CHECK.argumentRefused("what -1 of no shape", () -> bench.shape(1, Integer.MIN_VALUE));
        CHECK.placeRefused("law 2, ahead of what", () -> bench.shape(2, -1));
        CHECK.placeRefused("law -1", () -> bench.shape(-1, 0));
        CHECK.placeRefused("law 12", () -> bench.shape(12, 0));
    }

    private static void stepsOfShapes() {
        unavoidable("0", 1);
        unavoidable("2", 4);
        unavoidable("01", 1, 2);
        unavoidable("10", 1, 2);
        unavoidable("012", 1, 2, 4);
        unavoidable("010", 1, 2);
        unavoidable("101", 2, 1);
        unavoidable("212", 4, 2);
        unavoidable("0102", 1, 2, 4);
        unavoidable("01020", 1, 2, 4);
        unavoidable("01210", 1, 2, 4);
        unavoidable("010201", 1, 2, 4);
        // Here 0 is loose too, but it leaves 122.
        unavoidable("01202", 4, 1, 2);
    }

    public static void main(String[] args) {
        stepsOfShapes();
        avoidable("00");
        avoidable("0011");
        avoidable("0110");
        avoidable("010010");
        avoidable("012012");
        avoidable("22");
        bothWaysAgree();
        wrongInputs();
        CHECK.end();
    }
}
