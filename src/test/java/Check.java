/** What the tests share: it asks for answers, counts the wrong ones, and ends a test by them. */
final class Check {
    /** A call of the bench, or of what it is held against. */
    interface Call {
        int ask();
    }

    private final String test;
    private int calls;
    private int wrong;

    Check(String test) {
        this.test = test;
    }

    /** The answer as a text: a number, or throws. and the name of what the call throws. */
    static String outcome(Call call) {
        try {
            return Integer.toString(call.ask());
        } catch (RuntimeException e) {
            return "throws." + e.getClass().getSimpleName();
        }
    }

    void alike(String what, String got, String want) {
        calls++;
        if (!got.equals(want)) {
            wrong++;
            System.out.println(what + " answered " + got + ", due is " + want);
        }
    }

    void due(int want, String what, Call call) {
        alike(what, outcome(call), Integer.toString(want));
    }

    void refused(Class<? extends RuntimeException> want, String what, Call call) {
        alike(what, outcome(call), "throws." + want.getSimpleName());
    }

    void argumentRefused(String what, Call call) {
        refused(IllegalArgumentException.class, what, call);
    }

    void placeRefused(String what, Call call) {
        refused(IndexOutOfBoundsException.class, what, call);
    }

    void elementRefused(String what, Call call) {
        refused(java.util.NoSuchElementException.class, what, call);
    }

    /** Whether the WORD of a ROW has these letters and no more. */
    void holds(WordBench bench, int sheet, int k, int... letters) {
        due(letters.length, "letters of row " + k + " of sheet " + sheet, () -> bench.word(sheet, k));
        for (int i = 0; i < letters.length; i++) {
            int place = i;
            due(letters[i], "letter " + i + " of row " + k, () -> bench.letter(sheet, k, place));
        }
    }

    static void fill(WordBench bench, int sheet, int k, int... numbers) {
        bench.row(sheet, k, numbers.length);
        for (int i = 0; i < numbers.length; i++) {
            bench.put(sheet, k, i, numbers[i]);
        }
    }

    /** A bench with one SHEET of ints. */
    static WordBench benchWithSheet() {
        WordBench bench = new WordBench();
        bench.sheet(2);
        return bench;
    }

    void end() {
        System.out.println(test + ": " + calls + " answers, " + wrong + " wrong");
        if (wrong != 0 || calls == 0) {
            System.exit(1);
        }
    }
}
