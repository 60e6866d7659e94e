import java.lang.reflect.InvocationTargetException;
import java.lang.reflect.Method;
import java.util.Arrays;
import java.util.Random;

/** Runs of calls by fixed seeds: the class must answer each as the document's plain model does. */
public final class ModelTest {
    private static final Check CHECK = new Check("ModelTest");
    private static final int RUNS = 250;
    private static final int[] FAR_OUT = {Integer.MIN_VALUE, Integer.MIN_VALUE + 1, -1000, 256, 65536, 1 << 30,
        Integer.MAX_VALUE - 1, Integer.MAX_VALUE};
    // What an object answers after 512 calls is free, and the last turn may take 140 more than these.
    private static final int CALLS = 370;

    private final Random random;
    private final WordBench bench = new WordBench();
    private final Model model = new Model();
    private final int seed;
    private int calls;

    private ModelTest(int seed) {
        this.seed = seed;
        random = new Random(seed);
    }

    private static String outcome(Object on, String name, Object[] arguments) {
        try {
            for (Method method : on.getClass().getDeclaredMethods()) {
                if (method.getName().equals(name)) {
                    return method.invoke(on, arguments).toString();
                }
            }
            return "no such call";
        } catch (InvocationTargetException e) {
            return "throws." + e.getCause().getClass().getSimpleName();
        } catch (IllegalAccessException e) {
            return "not to be called";
        }
    }

    private void ask(String name, int... numbers) {
        calls++;
        Object[] arguments = Arrays.stream(numbers).boxed().toArray();
        String call = "seed " + seed + ": " + name + Arrays.toString(numbers);
        CHECK.alike(call, outcome(bench, name, arguments), outcome(model, name, arguments));
    }

    private int upTo(int most) {
        return random.nextInt(most + 1);
    }

    /** Mostly 0 to last, now and then one beyond, or far out. */
    private int about(int last) {
        if (random.nextInt(150) == 0) {
            return FAR_OUT[random.nextInt(FAR_OUT.length)];
        }
        return random.nextInt(25) == 0 ? random.nextInt(last + 5) - 2 : upTo(last);
    }

    private int aSheet() {
        return about(Math.max(0, bench.count(0) - 1));
    }

    private int aSet() {
        int set = random.nextInt(1 << bench.count(1)) & random.nextInt();
        return random.nextInt(40) == 0 ? set | 1 << upTo(31) : set;
    }

    private int aLength() {
        return random.nextInt(12) == 0 ? about(60) : upTo(7);
    }

    private void fillRow(int sheet, int k, int n, int alphabet) {
        ask("row", sheet, k, n);
        int period = 1 + upTo(n + 1);
        int[] word = new int[n + 1];
        for (int i = 0; i < n; i++) {
            word[i] = i >= period && random.nextInt(12) > 0 ? word[i - period] : random.nextInt(alphabet);
            ask("put", sheet, k, i, word[i] + (random.nextInt(60) == 0 ? 1 << 4 * upTo(7) : 0));
        }
    }

    private void rows() {
        int sheet = aSheet();
        int k = upTo(9);
        fillRow(sheet, k, random.nextInt(10) == 0 ? upTo(62) : upTo(14), 1 + upTo(3));
        ask("word", sheet, k);
        ask("letter", sheet, k, about(14));
        for (int what = 0; what < 4; what++) {
            ask("power", sheet, k, about(3));
        }
        for (int r = 0; r < 4; r++) {
            ask("run", sheet, k, r, about(2));
        }
        if (random.nextInt(4) == 0) {
            ask("tear", sheet, k);
        }
        ask("put", sheet, about(9), about(20), random.nextInt());
        ask("row", sheet, about(9), about(80));
    }

    private void laws() {
        int sheet = aSheet();
        int kind = about(5);
        if (kind == 0 || kind == 5) {
            fillRow(sheet, 0, upTo(kind == 0 ? 4 : 6), 3);
            ask("law", kind, sheet, random.nextInt(30) == 0 ? about(9) : 0);
        } else if (kind == 4 || kind == 3) {
            ask("law", kind, kind == 3 ? about(3) : about(0), about(0));
        } else {
            int q = about(6);
            ask("law", kind, q + about(7), q);
        }
        ask("shape", about(Math.max(0, bench.count(1) - 1)), about(6));
    }

    private void clashes() {
        int sheet = aSheet();
        fillRow(sheet, 2, upTo(14), 1 + upTo(5));
        int set = aSet();
        for (int what = 0; what < 4; what++) {
            ask("clash", set, sheet, 2, what);
        }
        ask("clash", aSet(), aSheet(), about(9), about(3));
    }

    private void searches() {
        int set = aSet();
        int alphabet = 1 + about(3);
        int n = aLength();
        int sheet = aSheet();
        ask("many", set, alphabet, n);
        ask("count", 2);
        ask("find", set, alphabet, n, about(20), sheet);
        ask("count", 2);
        ask("rank", set, alphabet, sheet, 0);
        ask("count", about(2));
        ask("rank", set, alphabet, aSheet(), about(9));
        if (random.nextInt(3) == 0) {
            ask("longest", set, alphabet);
        }
        ask("count", 2);
    }

    private void maps() {
        int alphabet = 1 + upTo(4);
        int sheet = aSheet();
        for (int x = 0; x < alphabet; x++) {
            int n = random.nextInt(5) == 0 ? 1 + upTo(20) : 1 + upTo(3);
            fillRow(sheet, x, n, alphabet);
            if (random.nextBoolean()) {
                ask("put", sheet, x, 0, x);
            }
        }
        int m = about(7);
        ask("map", m, random.nextInt(20) == 0 ? about(8) : alphabet, sheet, random.nextInt(20) == 0 ? about(9) : 0);
        ask("image", m, aSheet(), about(9), aSheet());
        ask("keeps", m, sheet);
        ask("word", sheet, 0);
        ask("letter", sheet, 0, upTo(2));
        ask("count", 2);
        for (int i = 0; i < 6; i++) {
            ask("at", i < 4 ? m : about(7), about(alphabet - 1), random.nextInt() >>> upTo(31));
        }
    }

    private void go() {
        ask("sheet", 0);
        ask("sheet", 1);
        while (calls < CALLS) {
            switch (upTo(5)) {
                case 0 -> ask("sheet", about(2));
                case 1 -> rows();
                case 2 -> laws();
                case 3 -> clashes();
                case 4 -> searches();
                default -> maps();
            }
        }
    }

    public static void main(String[] args) {
        for (int seed = 0; seed < RUNS; seed++) {
            new ModelTest(seed).go();
        }
        CHECK.end();
    }
}
