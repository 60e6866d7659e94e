import java.math.BigInteger;
import java.util.ArrayList;
import java.util.Arrays;
import java.util.List;
import java.util.NoSuchElementException;
import java.util.function.Predicate;

/**
 * The document's words in their plainest form, slow and with as little in common with the class as can be:
 * words are texts of digits, a law is asked of every span, and rows that grow are written out.
 */
final class Model {
    private record Told(int number, int kind, int a, int b, String word) {
    }

    private static final class Spent extends RuntimeException {
        private static final long serialVersionUID = 1L;
    }

    private static final class Ended extends RuntimeException {
        private static final long serialVersionUID = 1L;
    }

    private final List<Integer> widths = new ArrayList<>();
    private final List<int[][]> sheets = new ArrayList<>();
    private final List<Told> laws = new ArrayList<>();
    private final String[][] maps = new String[8][];
    private int looks;

    int sheet(int width) {
        if (width < 0 || width > 2) {
            throw new IllegalArgumentException();
        }
        if (sheets.size() == 16) {
            throw new IllegalStateException();
        }
        widths.add(width);
        sheets.add(new int[10][]);
        return sheets.size() - 1;
    }

    private int[][] rowsOf(int sheet) {
        if (sheet < 0 || sheet >= sheets.size()) {
            throw new IndexOutOfBoundsException();
        }
        return sheets.get(sheet);
    }

    private int[] rowOf(int sheet, int k) {
        int[][] rows = rowsOf(sheet);
        if (k < 0 || k > 9) {
            throw new IndexOutOfBoundsException();
        }
        return rows[k];
    }

    private void come(int sheet, String word) {
        sheets.get(sheet)[0] = word.chars().map(sign -> sign - '0').toArray();
    }

    /** The WORD of a ROW as digits, null if it is none. */
    private String textOf(int sheet, int k) {
        int[] row = rowOf(sheet, k);
        StringBuilder text = new StringBuilder();
        for (int number : row == null ? new int[0] : row) {
            if (number < 0 || number > 7) {
                return null;
            }
            text.append(number);
        }
        return text.length() > 60 ? null : text.toString();
    }

    int row(int sheet, int k, int n) {
        rowOf(sheet, k);
        if (n < 0 || n > 80) {
            return -1;
        }
        sheets.get(sheet)[k] = new int[n];
        return n;
    }

    int put(int sheet, int k, int i, int v) {
        int[] row = rowOf(sheet, k);
        if (row == null) {
            return -1;
        }
        if (i < 0 || i >= row.length) {
            return -2;
        }
        int bits = 32 >> (2 - widths.get(sheet));
        row[i] = v << (32 - bits) >> (32 - bits);
        return 1;
    }

    int tear(int sheet, int k) {
        int[] row = rowOf(sheet, k);
        sheets.get(sheet)[k] = null;
        return row == null ? -1 : row.length;
    }

    int word(int sheet, int k) {
        String word = textOf(sheet, k);
        return word == null ? -1 : word.length();
    }

    int letter(int sheet, int k, int i) {
        String word = textOf(sheet, k);
        return word == null || i < 0 || i >= word.length() ? -1 : word.charAt(i) - '0';
    }

    int law(int kind, int a, int b) {
        boolean right = switch (kind) {
            case 0, 5 -> true;
            case 1 -> b >= 1 && a > b && a <= 30;
            case 2 -> b >= 1 && a >= b && a <= 30;
            case 3 -> a >= 0 && a <= 9 && b == 0;
            case 4 -> a == 0 && b == 0;
            default -> false;
        };
        if (!right) {
            throw new IllegalArgumentException();
        }
        String word = kind == 0 || kind == 5 ? textOf(a, b) : "-";
        if (word == null || word.isEmpty() || (kind == 5 && !word.matches("[012]{1,6}"))) {
            return -1;
        }
        if (laws.size() == 12) {
            return -2;
        }
        laws.add(new Told(laws.size(), kind, a, b, word));
        return laws.size() - 1;
    }

    int count(int what) {
        return switch (what) {
            case 0 -> sheets.size();
            case 1 -> laws.size();
            case 2 -> looks;
            default -> -1;
        };
    }

    private static boolean hasPeriod(String word, int p) {
        return word.substring(p).equals(word.substring(0, word.length() - p));
    }

    private static int leastPeriod(String word) {
        int p = 1;
        while (!hasPeriod(word, p)) {
            p++;
        }
        return p;
    }

    private static List<int[]> runsOf(String word) {
        List<int[]> runs = new ArrayList<>();
        for (int i = 0; i < word.length(); i++) {
            for (int p = 1; p <= word.length(); p++) {
                for (int j = i + 2 * p; j <= word.length(); j++) {
                    boolean grows = (i > 0 && hasPeriod(word.substring(i - 1, j), p))
                            || (j < word.length() && hasPeriod(word.substring(i, j + 1), p));
                    if (!grows && leastPeriod(word.substring(i, j)) == p) {
                        runs.add(new int[] {i, j, p});
                    }
                }
            }
        }
        return runs;
    }

    private static void within(int what, int last) {
        if (what < 0 || what > last) {
            throw new IllegalArgumentException();
        }
    }

    int power(int sheet, int k, int what) {
        String word = textOf(sheet, k);
        within(what, 3);
        if (word == null || word.isEmpty()) {
            return word == null ? -1 : 0;
        }
        int n = word.length();
        int p = leastPeriod(word);
        int common = BigInteger.valueOf(n).gcd(BigInteger.valueOf(p)).intValue();
        return new int[] {p, n / common, p / common, runsOf(word).size()}[what];
    }

    int run(int sheet, int k, int r, int what) {
        String word = textOf(sheet, k);
        within(what, 2);
        List<int[]> runs = word == null ? List.of() : runsOf(word);
        return r < 0 || r >= runs.size() ? -1 : runs.get(r)[what];
    }

    /** Whether the SHAPE's rest and the span's rest fit, with what its UNKNOWNS stand for so far. */
    private static boolean comesOf(String shape, String span, String[] words) {
        if (shape.isEmpty() || span.length() < shape.length()) {
            return shape.isEmpty() && span.isEmpty();
        }
        int x = shape.charAt(0) - '0';
        String rest = shape.substring(1);
        if (words[x] != null) {
            return span.startsWith(words[x]) && comesOf(rest, span.substring(words[x].length()), words);
        }
        for (int size = 1; size <= span.length(); size++) {
            words[x] = span.substring(0, size);
            if (comesOf(rest, span.substring(size), words)) {
                words[x] = null;
                return true;
            }
        }
        words[x] = null;
        return false;
    }

    private static boolean near(String span, int most) {
        int half = span.length() / 2;
        int off = 0;
        for (int i = 0; i < half; i++) {
            off += span.charAt(i) != span.charAt(half + i) ? 1 : 0;
        }
        return span.length() % 2 == 0 && off <= most && off < half;
    }

    private static boolean turned(String span) {
        char[] first = span.substring(0, span.length() / 2).toCharArray();
        char[] second = span.substring(span.length() / 2).toCharArray();
        Arrays.sort(first);
        Arrays.sort(second);
        return Arrays.equals(first, second);
    }

    private static boolean bars(Told law, String span) {
        return switch (law.kind) {
            case 0 -> span.equals(law.word);
            case 1 -> span.length() * law.b >= law.a * leastPeriod(span);
            case 2 -> span.length() * law.b > law.a * leastPeriod(span);
            case 3 -> near(span, law.a);
            case 4 -> turned(span);
            default -> comesOf(law.word, span, new String[3]);
        };
    }

    private List<Told> lawsOf(int set) {
        List<Told> chosen = new ArrayList<>();
        for (int bit = 0; bit < 32; bit++) {
            if ((set & 1 << bit) != 0) {
                if (bit >= laws.size()) {
                    throw new IllegalArgumentException();
                }
                chosen.add(laws.get(bit));
            }
        }
        return chosen;
    }

    /** The CLASH of a WORD: letters, LAW, size of the SPAN; null if it is KEPT. */
    private int[] clashOf(List<Told> by, String word) {
        for (int c = 1; c <= word.length(); c++) {
            for (Told law : by) {
                for (int i = c - 1; i >= 0; i--) {
                    if (bars(law, word.substring(i, c))) {
                        return new int[] {c, law.number, c - i};
                    }
                }
            }
        }
        return null;
    }

    int clash(int set, int sheet, int k, int what) {
        String word = textOf(sheet, k);
        List<Told> by = lawsOf(set);
        within(what, 3);
        if (word == null) {
            return -2;
        }
        int[] clash = clashOf(by, word);
        if (what == 0) {
            return clash == null ? 1 : 0;
        }
        return clash == null ? -1 : clash[what - 1];
    }

    private void look(List<Told> by) {
        int cost = by.stream().anyMatch(law -> law.kind == 5) ? 10 : 1;
        if (looks + cost > 20000) {
            throw new Spent();
        }
        looks += cost;
    }

    /** Only the SPANS that end with the last letter are new to a WORD that was KEPT without it. */
    private static boolean keptWithLast(List<Told> by, String word) {
        for (int i = 0; i < word.length(); i++) {
            String span = word.substring(i);
            if (by.stream().anyMatch(law -> bars(law, span))) {
                return false;
            }
        }
        return true;
    }

    /** Tells every WORD that is made and KEPT; ends when the teller says so. */
    private void seek(List<Told> by, int alphabet, int n, String word, Predicate<String> last) {
        look(by);
        if (!keptWithLast(by, word)) {
            return;
        }
        if (last.test(word)) {
            throw new Ended();
        }
        for (int x = 0; x < alphabet && word.length() < n; x++) {
            seek(by, alphabet, n, word + x, last);
        }
    }

    /** A whole SEARCH: whether it came to its end, and was not SPENT. */
    private boolean seekAll(List<Told> by, int alphabet, int n, Predicate<String> last) {
        try {
            seek(by, alphabet, n, "", last);
            return true;
        } catch (Ended e) {
            return true;
        } catch (Spent e) {
            return false;
        }
    }

    private List<Told> needed(int set, int alphabet, int n) {
        List<Told> by = lawsOf(set);
        if (alphabet < 1 || alphabet > 8 || n < 0 || n > 60) {
            throw new IllegalArgumentException();
        }
        return by;
    }

    /** The WORDS of n letters that are found ahead of, and with, the last one; null if it is SPENT. */
    private List<String> found(List<Told> by, int alphabet, int n, Predicate<List<String>> enough) {
        List<String> found = new ArrayList<>();
        looks = 0;
        boolean told = seekAll(by, alphabet, n, word -> {
            if (word.length() == n) {
                found.add(word);
            }
            return word.length() == n && enough.test(found);
        });
        return told ? found : null;
    }

    int many(int set, int alphabet, int n) {
        List<String> found = found(needed(set, alphabet, n), alphabet, n, words -> false);
        return found == null ? -2 : found.size();
    }

    int find(int set, int alphabet, int n, int k, int sheet) {
        List<Told> by = needed(set, alphabet, n);
        rowsOf(sheet);
        if (k < 0) {
            return 0;
        }
        List<String> found = found(by, alphabet, n, words -> words.size() == k + 1);
        if (found == null || found.size() <= k) {
            return found == null ? -2 : 0;
        }
        come(sheet, found.get(k));
        return 1;
    }

    int rank(int set, int alphabet, int sheet, int k) {
        List<Told> by = needed(set, alphabet, 0);
        String word = textOf(sheet, k);
        if (word == null || word.chars().anyMatch(sign -> sign - '0' >= alphabet) || clashOf(by, word) != null) {
            return -1;
        }
        List<String> found = found(by, alphabet, word.length(), words -> words.contains(word));
        return found == null ? -2 : found.size() - 1;
    }

    int longest(int set, int alphabet) {
        List<Told> by = needed(set, alphabet, 0);
        int[] most = {0};
        looks = 0;
        boolean told = seekAll(by, alphabet, 60, word -> {
            most[0] = Math.max(most[0], word.length());
            return word.length() == 60;
        });
        if (!told) {
            return -2;
        }
        return most[0] == 60 ? -1 : most[0];
    }

    int map(int m, int alphabet, int sheet, int from) {
        if (m < 0 || m > 7 || alphabet < 1 || alphabet > 8) {
            throw new IllegalArgumentException();
        }
        String[] words = new String[alphabet];
        rowOf(sheet, from);
        rowOf(sheet, from + alphabet - 1);
        for (int x = 0; x < alphabet; x++) {
            words[x] = textOf(sheet, from + x);
            if (words[x] == null || !words[x].matches("[0-" + (alphabet - 1) + "]{1,20}")) {
                return 0;
            }
        }
        maps[m] = words;
        return 1;
    }

    private String[] mapOf(int m) {
        if (m < 0 || m > 7 || maps[m] == null) {
            throw new NoSuchElementException();
        }
        return maps[m];
    }

    private static String imageOf(String[] map, String word) {
        StringBuilder image = new StringBuilder();
        word.chars().forEach(sign -> image.append(map[sign - '0']));
        return image.toString();
    }

    int image(int m, int sheet, int k, int to) {
        String[] map = mapOf(m);
        String word = textOf(sheet, k);
        rowsOf(to);
        if (word == null || word.chars().anyMatch(sign -> sign - '0' >= map.length)) {
            return -1;
        }
        String image = imageOf(map, word);
        if (image.length() > 60) {
            return -2;
        }
        come(to, image);
        return image.length();
    }

    private static boolean hasSquare(String word) {
        for (int i = 0; i < word.length(); i++) {
            for (int p = 1; i + 2 * p <= word.length(); p++) {
                if (word.startsWith(word.substring(i, i + p), i + p)) {
                    return true;
                }
            }
        }
        return false;
    }

    int keeps(int m, int sheet) {
        String[] map = mapOf(m);
        rowsOf(sheet);
        double most = Arrays.stream(map).mapToInt(String::length).max().getAsInt();
        double fewest = Arrays.stream(map).mapToInt(String::length).min().getAsInt();
        int last = (int) Math.max(3, 1 + Math.ceil((most - 3) / fewest));
        List<Told> squares = List.of(new Told(0, 1, 2, 1, "-"));
        String[] failure = new String[1];
        looks = 0;
        for (int n = 1; n <= last && failure[0] == null; n++) {
            int size = n;
            boolean told = seekAll(squares, map.length, n, word -> {
                boolean fails = word.length() == size && hasSquare(imageOf(map, word));
                failure[0] = fails ? word : null;
                return fails;
            });
            if (!told) {
                return -2;
            }
        }
        if (failure[0] != null) {
            come(sheet, failure[0]);
        }
        return failure[0] == null ? 1 : 0;
    }

    private static BigInteger grownSize(String[] map, int letter, int images, BigInteger[][] known) {
        if (known[images][letter] == null) {
            known[images][letter] = images == 0 ? BigInteger.ONE : map[letter].chars()
                    .mapToObj(sign -> grownSize(map, sign - '0', images - 1, known))
                    .reduce(BigInteger.ZERO, BigInteger::add);
        }
        return known[images][letter];
    }

    /** The letter at a place of what a letter has become after so many images. */
    private static int letterOf(String[] map, int letter, int images, BigInteger place, BigInteger[][] known) {
        BigInteger rest = place;
        for (int i = 0; images > 0; i++) {
            int next = map[letter].charAt(i) - '0';
            BigInteger size = grownSize(map, next, images - 1, known);
            if (rest.compareTo(size) < 0) {
                return letterOf(map, next, images - 1, rest, known);
            }
            rest = rest.subtract(size);
        }
        return letter;
    }

    int at(int m, int letter, int place) {
        String[] map = mapOf(m);
        boolean grows = letter >= 0 && letter < map.length && map[letter].startsWith(Integer.toString(letter))
                && Arrays.stream(map).allMatch(word -> word.length() > 1);
        if (!grows || place < 0) {
            return -1;
        }
        if (place > 20000) {
            return letterOf(map, letter, 40, BigInteger.valueOf(place), new BigInteger[41][map.length]);
        }
        String row = Integer.toString(letter);
        while (row.length() <= place) {
            row = imageOf(map, row);
        }
        return row.charAt(place) - '0';
    }

    private static boolean wayLeads(String shape, String from, String to, List<String> seen) {
        if (from.equals(to)) {
            return true;
        }
        seen.add(from);
        for (int i = 0; i + 1 < shape.length(); i++) {
            String right = "R" + shape.charAt(i);
            String left = "L" + shape.charAt(i + 1);
            String next = from.equals(right) ? left : from.equals(left) ? right : from;
            if (!seen.contains(next) && wayLeads(shape, next, to, seen)) {
                return true;
            }
        }
        return false;
    }

    private static boolean loose(String shape, String set) {
        for (char x : set.toCharArray()) {
            for (char y : set.toCharArray()) {
                if (shape.indexOf(x) < 0 || wayLeads(shape, "R" + x, "L" + y, new ArrayList<>())) {
                    return false;
                }
            }
        }
        return true;
    }

    private static List<Integer> stepsOf(String shape) {
        if (shape.isEmpty()) {
            return List.of();
        }
        String[] sets = {"0", "1", "01", "2", "02", "12", "012"};
        for (int bits = 1; bits <= 7; bits++) {
            List<Integer> rest = loose(shape, sets[bits - 1])
                    ? stepsOf(shape.replaceAll("[" + sets[bits - 1] + "]", "")) : null;
            if (rest != null) {
                List<Integer> steps = new ArrayList<>(List.of(bits));
                steps.addAll(rest);
                return steps;
            }
        }
        return null;
    }

    private static boolean stands(String shape) {
        String zimin = "0";
        for (int k = 1; k < shape.chars().distinct().count(); k++) {
            zimin = zimin + k + zimin;
        }
        for (int i = 0; i < zimin.length(); i++) {
            for (int j = i + 1; j <= zimin.length(); j++) {
                if (comesOf(shape, zimin.substring(i, j), new String[3])) {
                    return true;
                }
            }
        }
        return false;
    }

    int shape(int law, int what) {
        if (law < 0 || law >= laws.size()) {
            throw new IndexOutOfBoundsException();
        }
        if (what < 0) {
            throw new IllegalArgumentException();
        }
        if (laws.get(law).kind != 5) {
            return -1;
        }
        String shape = laws.get(law).word;
        List<Integer> steps = stepsOf(shape);
        return switch (what) {
            case 0 -> steps == null ? 0 : 1;
            case 1 -> stands(shape) ? 1 : 0;
            case 2 -> steps == null ? 0 : steps.size();
            default -> steps == null || what - 3 >= steps.size() ? 0 : steps.get(what - 3);
        };
    }
}
