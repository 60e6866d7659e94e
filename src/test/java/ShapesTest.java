/** Part 5 of the terms and promise 21: shape. */
public final class ShapesTest {
    private static final Check CHECK = new Check("ShapesTest");
    private static final int LEAST = Integer.MIN_VALUE;
    private static final int MOST = Integer.MAX_VALUE;

    private static WordBench benchWithShape(String told) {
        WordBench bench = Check.benchWithSheet();
        Check.fill(bench, 0, 0, told);
        CHECK.due(0, "law " + told, () -> bench.law(5, 0, 0));
        return bench;
    }

    private static void unavoidable(String told, int... steps) {
        WordBench bench = benchWithShape(told);
        CHECK.due(1, told + " unavoidable", () -> bench.shape(0, 0));
        CHECK.due(1, told + " in Zimin's row", () -> bench.shape(0, 1));
        CHECK.due(steps.length, told + "'s steps", () -> bench.shape(0, 2));
        for (int i = 0; i < steps.length; i++) {
            int what = i + 3;
            CHECK.due(steps[i], "step " + i + " of " + told, () -> bench.shape(0, what));
        }
        CHECK.due(0, "a step more", () -> bench.shape(0, 3 + steps.length));
    }

    private static void avoidable(String told) {
        WordBench bench = benchWithShape(told);
        for (int what = 0; what < 8; what++) {
            int asked = what;
            CHECK.due(0, told + ", what " + what, () -> bench.shape(0, asked));
        }
    }

    private static void oneUnknown() {
        CHECK.says("Terms 5", "UNAVOIDABLE is a SHAPE, if it can be taken off to nothing, of one UNKNOWN");
        unavoidable("0", 1);
        unavoidable("1", 2);
        unavoidable("2", 4);
        for (String told : new String[] {"00", "11", "22", "000", "111111", "222222"}) {
            avoidable(told);
        }
    }

    private static void twoUnknowns() {
        CHECK.says("Terms 5", "each pair of UNKNOWNS x, y one behind the other in it joins x's right side to y's left");
        unavoidable("01", 1, 2);
        unavoidable("10", 1, 2);
        unavoidable("010", 1, 2);
        unavoidable("101", 2, 1);
        unavoidable("121", 2, 4);
        unavoidable("212", 4, 2);
        unavoidable("20", 1, 4);
        unavoidable("202", 4, 1);
        for (String told : new String[] {"0101", "0110", "001", "0010", "0100", "110", "010010"}) {
            avoidable(told);
        }
    }

    private static void threeUnknowns() {
        CHECK.says("Terms 5", "Taking a LOOSE set off leaves the others, as they stood");
        unavoidable("012", 1, 2, 4);
        unavoidable("210", 1, 2, 4);
        unavoidable("0102", 1, 2, 4);
        unavoidable("01020", 1, 2, 4);
        unavoidable("01210", 1, 2, 4);
        unavoidable("010201", 1, 2, 4);
        for (String told : new String[] {"012012", "001122", "01221", "011220", "0122"}) {
            avoidable(told);
        }
    }

    private static void looseSets() {
        CHECK.says("Terms 5", "A set of UNKNOWNS of it (not empty) is LOOSE, if from no right side of one in it a way "
                + "over such joinings leads to the left side of one in it");
        // 0 is not loose: its right side, 1's left side, 2's right side, its left side.
        unavoidable("20121", 2, 4, 1);
        unavoidable("12102", 2, 4, 1);
        // 0 and 1 are not loose together, so they are two steps.
        unavoidable("01", 1, 2);
        unavoidable("02", 1, 4);
        avoidable("012012");
    }

    private static void stepsAreTheFirst() {
        CHECK.says("Terms 5", "STEPS: of rows of LOOSE sets that lead to nothing, each of what is left, the first one");
        // Here 0 is loose too, but it leaves 122.
        unavoidable("01202", 4, 1, 2);
        unavoidable("20210", 4, 1, 2);
        unavoidable("21202", 4, 1, 2);
        unavoidable("21201", 4, 2, 1);
        unavoidable("10212", 4, 2, 1);
        unavoidable("2120", 1, 4, 2);
        unavoidable("1202", 2, 4, 1);
        unavoidable("20102", 1, 4, 2);
    }

    /** The two ways of the document must tell the same of every SHAPE. */
    private static void bothWaysAgree() {
        CHECK.says("Terms 5", "It STANDS in ZIMIN's row, if a SPAN of that comes of it as in 2");
        int stand = 0;
        for (int size = 1; size <= 6; size++) {
            for (int number = 0; number < Math.pow(3, size); number++) {
                String told = Integer.toString(number, 3);
                WordBench bench = benchWithShape("0".repeat(size - told.length()) + told);
                CHECK.due(bench.shape(0, 0), told + " in Zimin's row", () -> bench.shape(0, 1));
                stand += bench.shape(0, 1);
            }
        }
        int told = stand;
        CHECK.due(93, "shapes that stand in it", () -> told);
    }

    private static void ziminsRowIsOfAsManyUnknowns() {
        CHECK.says("Terms 5", "of one UNKNOWN 0; of k: that of k - 1, k - 1, that of k - 1 again; k how many UNKNOWNS it "
                + "has");
        unavoidable("2", 4);
        unavoidable("101", 2, 1);
        unavoidable("202", 4, 1);
        unavoidable("01020", 1, 2, 4);
        unavoidable("102010", 1, 2, 4);
        unavoidable("121012", 2, 4, 1);
    }

    private static void setsOfTheSteps() {
        CHECK.says("Promise 21", "2 how many STEPS (0 without), 3 and on the sets of the STEPS (0 for more)");
        WordBench bench = benchWithShape("012");
        CHECK.due(3, "steps", () -> bench.shape(0, 2));
        for (int what : new int[] {6, 7, 8, 100, MOST - 1, MOST}) {
            CHECK.due(0, "what " + what, () -> bench.shape(0, what));
        }
        WordBench without = benchWithShape("00");
        for (int what : new int[] {2, 3, 4, MOST}) {
            CHECK.due(0, "what " + what + " without", () -> without.shape(0, what));
        }
        // What was tried in vain leaves no set behind.
        WordBench tried = benchWithShape("0122");
        for (int what : new int[] {0, 1, 2, 3, 4, 5, 6}) {
            CHECK.due(0, "what " + what + " in vain", () -> tried.shape(0, what));
        }
    }

    private static void lawsThatAreNoShape() {
        CHECK.says("Promise 21", "-1: it is no SHAPE");
        WordBench bench = benchWithShape("010");
        bench.law(0, 0, 0);
        bench.law(1, 2, 1);
        bench.law(2, 2, 1);
        bench.law(3, 0, 0);
        bench.law(4, 0, 0);
        for (int law : new int[] {1, 2, 3, 4, 5}) {
            for (int what : new int[] {0, 1, 2, 3, 4, MOST}) {
                CHECK.due(-1, "law " + law + ", what " + what, () -> bench.shape(law, what));
            }
        }
        CHECK.due(2, "law 0", () -> bench.shape(0, 2));
    }

    private static void noSuchLaw() {
        CHECK.says("Promise 21", "IndexOutOfBoundsException: no such LAW");
        WordBench bench = benchWithShape("010");
        for (int law : new int[] {-1, 1, 11, 12, LEAST, MOST}) {
            CHECK.placeRefused("law " + law, () -> bench.shape(law, 0));
            CHECK.placeRefused("law " + law + ", ahead of the what", () -> bench.shape(law, -1));
        }
        for (int i = 1; i < 12; i++) {
            bench.law(5, 0, 0);
        }
        CHECK.due(1, "law 11", () -> bench.shape(11, 0));
        CHECK.placeRefused("law 12", () -> bench.shape(12, 0));
    }

    private static void noSuchWhat() {
        CHECK.says("Promise 21", "IllegalArgumentException: what is below 0");
        WordBench bench = benchWithShape("010");
        bench.law(4, 0, 0);
        for (int what : new int[] {-1, -2, LEAST}) {
            CHECK.argumentRefused("what " + what, () -> bench.shape(0, what));
            CHECK.argumentRefused("what " + what + " of no shape", () -> bench.shape(1, what));
        }
    }

    public static void main(String[] args) {
        oneUnknown();
        twoUnknowns();
        threeUnknowns();
        looseSets();
        stepsAreTheFirst();
        bothWaysAgree();
        ziminsRowIsOfAsManyUnknowns();
        setsOfTheSteps();
        lawsThatAreNoShape();
        noSuchLaw();
        noSuchWhat();
        CHECK.end();
    }
}
