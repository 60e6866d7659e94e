import java.util.ArrayList;
import java.util.List;
import java.util.Random;
import java.util.regex.Pattern;

/** Part 2 of the terms for SHAPES: what comes of each of them, in WORDS of up to 60 letters, told by patterns. */
public final class ShapeWordsTest {
    private static final Check CHECK = new Check("ShapeWordsTest");
    private static final int WORDS = 4;

    /** A group for an UNKNOWN where it first stands, what the group was for it where it stands again. */
    private static Pattern patternOf(String shape) {
        StringBuilder text = new StringBuilder();
        for (int i = 0; i < shape.length(); i++) {
            String name = "x" + shape.charAt(i);
            boolean again = shape.indexOf(shape.charAt(i)) < i;
            text.append(again ? "\\k<" + name + ">" : "(?<" + name + ">.+)");
        }
        return Pattern.compile(text.toString());
    }

    /** CLASH of a word by a shape: how many letters, how long its shortest SPAN; -1, -1 if it is KEPT. */
    private static int[] clashOf(Pattern shape, String word) {
        for (int c = 1; c <= word.length(); c++) {
            for (int i = c - 1; i >= 0; i--) {
                if (shape.matcher(word.substring(i, c)).matches()) {
                    return new int[] {c, c - i};
                }
            }
        }
        return new int[] {-1, -1};
    }

    private static String randomLetters(Random random, int n, int alphabet) {
        StringBuilder word = new StringBuilder();
        for (int i = 0; i < n; i++) {
            word.append(random.nextInt(alphabet));
        }
        return word.toString();
    }

    /** Some letters, then what comes of the shape with some words, as much of it as a WORD has room for. */
    private static String wordWith(Random random, String shape) {
        int alphabet = 2 + random.nextInt(7);
        String[] words = new String[3];
        for (int x = 0; x < 3; x++) {
            words[x] = randomLetters(random, 1 + random.nextInt(12), alphabet);
        }
        StringBuilder word = new StringBuilder(randomLetters(random, random.nextInt(12), alphabet));
        shape.chars().forEach(x -> word.append(words[x - '0']));
        return word.substring(0, Math.min(60, word.length()));
    }

    private static void holdAgainstPattern(String shape, String word) {
        WordBench bench = Check.benchWithSheet();
        Check.fill(bench, 0, 0, shape);
        bench.law(5, 0, 0);
        Check.fill(bench, 0, 1, word);
        int[] clash = clashOf(patternOf(shape), word);
        CHECK.due(clash[0], shape + " in " + word + ", letters", () -> bench.clash(1, 0, 1, 1));
        CHECK.due(clash[1], shape + " in " + word + ", span", () -> bench.clash(1, 0, 1, 3));
    }

    private static List<String> shapesOf(int size) {
        List<String> shapes = new ArrayList<>();
        for (int number = 0; number < Math.pow(3, size); number++) {
            String told = Integer.toString(number, 3);
            shapes.add("0".repeat(size - told.length()) + told);
        }
        return shapes;
    }

    public static void main(String[] args) {
        CHECK.says("Terms 2", "each that comes of it with some WORD, not empty, in the place of each UNKNOWN, the same "
                + "one for the same; of the SPANS that this one BARS there the shortest");
        Random random = new Random(1);
        for (int size = 1; size <= 6; size++) {
            for (String shape : shapesOf(size)) {
                for (int i = 0; i < WORDS; i++) {
                    holdAgainstPattern(shape, wordWith(random, shape));
                }
            }
        }
        CHECK.end();
    }
}
