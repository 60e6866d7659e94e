/** What the tests share: it asks for answers, counts the wrong ones, and ends a test by them. */
final class Check {
    /** A call of the bench, or of what it is held against. */
    interface Call {
        int ask();
    }

    private final String test;
    private String sentence = "";
    private int sentences;
    private int answers;
    private int wrong;

    Check(String test) {
        this.test = test;
    }

    /** The words of the document that the answers from here on are held against. */
    void says(String where, String words) {
        sentence = where + " [" + words + "]: ";
        sentences++;
    }

    /** The answer as a text: a number, or throws. and the name of what the call throws. */
    static String outcome(Call call) {
        try {
            return Integer.toString(call.ask());
        } catch (RuntimeException e) {
            return "throws." + e.getClass().getSimpleName();
        }
    }

    void alike(String what, String got, String want) {
        answers++;
        if (!got.equals(want)) {
            wrong++;
            System.out.println(sentence + what + " answered " + got + ", due is " + want);
        }
    }

    void due(int want, String what, Call call) {
        alike(what, outcome(call), Integer.toString(want));
    }

    void refused(Class<? extends RuntimeException> want, String what, Call call) {
        alike(what, outcome(call), "throws." + want.getSimpleName());
    }

    void argumentRefused(String what, Call call) {
        refused(IllegalArgumentException.class, what, call);
    }

    void stateRefused(String what, Call call) {
        refused(IllegalStateException.class, what, call);
    }

    void placeRefused(String what, Call call) {
        refused(IndexOutOfBoundsException.class, what, call);
    }

    void elementRefused(String what, Call call) {
        refused(java.util.NoSuchElementException.class, what, call);
    }

    /** Whether the WORD of a ROW has these letters and no more. */
    void holds(WordBench bench, int sheet, int k, String letters) {
        due(letters.length(), "letters of row " + k + " of sheet " + sheet, () -> bench.word(sheet, k));
        for (int i = 0; i < letters.length(); i++) {
            int place = i;
            due(letters.charAt(i) - '0', "letter " + i + " of row " + k, () -> bench.letter(sheet, k, place));
        }
    }

    void looks(WordBench bench, int want) {
        due(want, "looks", () -> bench.count(2));
    }

    static void fill(WordBench bench, int sheet, int k, int... numbers) {
        bench.row(sheet, k, numbers.length);
        for (int i = 0; i < numbers.length; i++) {
            bench.put(sheet, k, i, numbers[i]);
        }
    }

    /** The same for letters, a digit for each. */
    static void fill(WordBench bench, int sheet, int k, String letters) {
        fill(bench, sheet, k, letters.chars().map(sign -> sign - '0').toArray());
    }

    /** A bench with one SHEET of ints. */
    static WordBench benchWithSheet() {
        WordBench bench = new WordBench();
        bench.sheet(2);
        return bench;
    }

    void end() {
        System.out.println(test + ": " + answers + " answers by " + sentences + " sentences, " + wrong + " wrong");
        if (wrong != 0 || answers == 0) {
            System.exit(1);
        }
    }
}
