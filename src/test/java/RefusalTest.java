import java.util.List;

/**
 * Calls that are refused, by an exception or by an answer, and calls that only tell: each is done on one of
 * two benches that were made alike, and these must answer alike to everything behind it.
 */
public final class RefusalTest {
    private static final Check CHECK = new Check("RefusalTest");
    private static final String ARGUMENT = "throws.IllegalArgumentException";
    private static final String STATE = "throws.IllegalStateException";
    private static final String PLACE = "throws.IndexOutOfBoundsException";
    private static final String ELEMENT = "throws.NoSuchElementException";

    private static final int NO_WORD = 2;
    private static final int LONG = 3;
    private static final int MISSING = 9;

    /** ROWS of every sort, LAWS 0 to 2, MAPS 0 and 1, and a SEARCH behind it of 67 LOOKS. */
    private static WordBench bench() {
        WordBench bench = new WordBench();
        bench.sheet(0);
        bench.sheet(2);
        Check.fill(bench, 0, 0, "01");
        Check.fill(bench, 0, 1, "10");
        Check.fill(bench, 0, NO_WORD, 0, 8);
        bench.row(0, LONG, 61);
        bench.row(0, 4, 0);
        Check.fill(bench, 0, 5, "0120120");
        Check.fill(bench, 0, 6, "010");
        Check.fill(bench, 0, 7, "1".repeat(31));
        bench.row(1, 0, 80);
        Check.fill(bench, 1, 1, "71");
        bench.law(1, 2, 1);
        bench.law(5, 0, 6);
        bench.law(0, 0, 0);
        bench.map(0, 2, 0, 0);
        Check.fill(bench, 1, 9, "00");
        bench.map(1, 1, 1, 9);
        bench.many(1, 3, 4);
        return bench;
    }

    /** The same with 16 SHEETS and 12 LAWS. */
    private static WordBench fullBench() {
        WordBench bench = bench();
        while (bench.count(0) < 16) {
            bench.sheet(1);
        }
        while (bench.count(1) < 12) {
            bench.law(4, 0, 0);
        }
        return bench;
    }

    private static void compare(String what, WordBench called, WordBench other) {
        List<String> got = Twins.allAnswers(called);
        List<String> want = Twins.allAnswers(other);
        CHECK.alike("all behind " + what, got.toString(), want.toString());
    }

    /** A call that answers so and changes nothing. */
    private static void nothing(String want, String what, Twins.Asked call) {
        WordBench called = bench();
        CHECK.alike(what, Check.outcome(() -> call.ask(called)), want);
        compare(what, called, bench());
    }

    private static void nothingWhenFull(String want, String what, Twins.Asked call) {
        WordBench called = fullBench();
        CHECK.alike(what, Check.outcome(() -> call.ask(called)), want);
        compare(what, called, fullBench());
    }

    /** A call that SEARCHES and else changes nothing: a short SEARCH makes the LOOKS alike again. */
    private static void looksAlone(String want, String what, Twins.Asked call) {
        WordBench called = bench();
        WordBench other = bench();
        CHECK.alike(what, Check.outcome(() -> call.ask(called)), want);
        called.many(0, 1, 0);
        other.many(0, 1, 0);
        compare(what, called, other);
    }

    private static void allAnswersSeeEachPart() {
        CHECK.says("The twins", "a call that does change something is seen");
        Twins.Asked[] changes = {of -> of.sheet(0), of -> of.row(1, 0, 79), of -> of.put(0, 6, 2, 1),
            of -> of.tear(0, 4), of -> of.law(4, 0, 0), of -> of.many(0, 1, 0), of -> of.map(0, 1, 1, 9),
            of -> of.map(7, 2, 0, 0), of -> of.image(0, 0, 4, 1), of -> of.keeps(1, 1), of -> of.row(0, MISSING, 0)};
        for (Twins.Asked change : changes) {
            WordBench changed = bench();
            change.ask(changed);
            boolean alike = Twins.allAnswers(changed).equals(Twins.allAnswers(bench()));
            CHECK.due(0, "alike", () -> alike ? 1 : 0);
        }
    }

    private static void sheetsThatAreRefused() {
        CHECK.says("Promise 2", "IllegalArgumentException: no such width; IllegalStateException: there are 16");
        nothing(ARGUMENT, "sheet(-1)", of -> of.sheet(-1));
        nothing(ARGUMENT, "sheet(3)", of -> of.sheet(3));
        nothingWhenFull(STATE, "sheet(0)", of -> of.sheet(0));
        nothingWhenFull(ARGUMENT, "sheet(3)", of -> of.sheet(3));
    }

    private static void rowsThatAreRefused() {
        CHECK.says("Promises 3 to 5", "-1, doing nothing; -2; IndexOutOfBoundsException");
        nothing("-1", "row(0, 0, -1)", of -> of.row(0, 0, -1));
        nothing("-1", "row(0, 0, 81)", of -> of.row(0, 0, 81));
        nothing("-1", "row of 81 for a missing one", of -> of.row(0, MISSING, 81));
        nothing(PLACE, "row(2, 0, 1)", of -> of.row(2, 0, 1));
        nothing(PLACE, "row(0, 10, 1)", of -> of.row(0, 10, 1));
        nothing("-1", "put to a missing row", of -> of.put(0, MISSING, 0, 1));
        nothing("-2", "put(0, 0, 2, 7)", of -> of.put(0, 0, 2, 7));
        nothing("-2", "put(0, 1, -1, 7)", of -> of.put(0, 1, -1, 7));
        nothing("-2", "put to a row of none", of -> of.put(0, 4, 0, 7));
        nothing("-2", "put to place 80", of -> of.put(1, 0, 80, 7));
        nothing(PLACE, "put(0, 10, 0, 7)", of -> of.put(0, 10, 0, 7));
        nothing(PLACE, "put(-1, 1, 0, 7)", of -> of.put(-1, 1, 0, 7));
        nothing("-1", "tear of a missing row", of -> of.tear(0, MISSING));
        nothing(PLACE, "tear(0, 10)", of -> of.tear(0, 10));
        nothing(PLACE, "tear(0, -1)", of -> of.tear(0, -1));
        nothing(PLACE, "tear(2, 0)", of -> of.tear(2, 0));
    }

    private static void wordsThatAreAsked() {
        CHECK.says("Promises 6, 7, 9", "word, letter and count only tell");
        nothing("2", "word(0, 0)", of -> of.word(0, 0));
        nothing("-1", "word of none", of -> of.word(0, NO_WORD));
        nothing("0", "word of a missing row", of -> of.word(0, MISSING));
        nothing(PLACE, "word(2, 0)", of -> of.word(2, 0));
        nothing("7", "letter(1, 1, 0)", of -> of.letter(1, 1, 0));
        nothing("-1", "letter(0, 0, 2)", of -> of.letter(0, 0, 2));
        nothing("-1", "letter of no word", of -> of.letter(0, LONG, 0));
        nothing(PLACE, "letter(0, 10, 0)", of -> of.letter(0, 10, 0));
        nothing("67", "count(2)", of -> of.count(2));
        nothing("-1", "count(3)", of -> of.count(3));
    }

    private static void lawsThatAreRefused() {
        CHECK.says("Promise 8", "-1: the ROW is no such WORD; -2: there are 12; IllegalArgumentException; "
                + "IndexOutOfBoundsException");
        nothing("-1", "told by no word", of -> of.law(0, 0, NO_WORD));
        nothing("-1", "told by the empty word", of -> of.law(0, 0, 4));
        nothing("-1", "told by a missing row", of -> of.law(0, 0, MISSING));
        nothing("-1", "told by 61", of -> of.law(0, 0, LONG));
        nothing("-1", "shape of seven letters", of -> of.law(5, 0, 5));
        nothing("-1", "shape with 7", of -> of.law(5, 1, 1));
        nothing(ARGUMENT, "law(6, 0, 0)", of -> of.law(6, 0, 0));
        nothing(ARGUMENT, "law(-1, 0, 0)", of -> of.law(-1, 0, 0));
        nothing(ARGUMENT, "law(1, 2, 2)", of -> of.law(1, 2, 2));
        nothing(ARGUMENT, "law(2, 31, 1)", of -> of.law(2, 31, 1));
        nothing(ARGUMENT, "law(3, 10, 0)", of -> of.law(3, 10, 0));
        nothing(ARGUMENT, "law(4, 0, 1)", of -> of.law(4, 0, 1));
        nothing(PLACE, "law(0, 2, 0)", of -> of.law(0, 2, 0));
        nothing(PLACE, "law(5, 0, 10)", of -> of.law(5, 0, 10));
        nothingWhenFull("-2", "law(4, 0, 0)", of -> of.law(4, 0, 0));
        nothingWhenFull("-2", "law(0, 0, 0)", of -> of.law(0, 0, 0));
        nothingWhenFull("-2", "law(5, 0, 6)", of -> of.law(5, 0, 6));
        nothingWhenFull("-1", "law(5, 0, 5)", of -> of.law(5, 0, 5));
    }

    private static void powersThatAreAsked() {
        CHECK.says("Promises 10 to 12", "power, run and clash only tell");
        nothing("3", "power(0, 5, 0)", of -> of.power(0, 5, 0));
        nothing("1", "power(0, 5, 3)", of -> of.power(0, 5, 3));
        nothing("-1", "power of no word", of -> of.power(0, NO_WORD, 0));
        nothing(ARGUMENT, "power(0, 0, 4)", of -> of.power(0, 0, 4));
        nothing(PLACE, "power(0, 10, 0)", of -> of.power(0, 10, 0));
        nothing("7", "run(0, 5, 0, 1)", of -> of.run(0, 5, 0, 1));
        nothing("-1", "run(0, 5, 1, 1)", of -> of.run(0, 5, 1, 1));
        nothing(ARGUMENT, "run(0, 5, 0, 3)", of -> of.run(0, 5, 0, 3));
        nothing(PLACE, "run(2, 5, 0, 0)", of -> of.run(2, 5, 0, 0));
        nothing("4", "clash(2, 0, 5, 3)", of -> of.clash(2, 0, 5, 3));
        nothing("1", "clash(1, 0, 0, 0)", of -> of.clash(1, 0, 0, 0));
        nothing("-2", "clash of no word", of -> of.clash(1, 0, NO_WORD, 0));
        nothing(ARGUMENT, "clash(8, 0, 0, 0)", of -> of.clash(8, 0, 0, 0));
        nothing(ARGUMENT, "clash(1, 0, 0, 4)", of -> of.clash(1, 0, 0, 4));
        nothing(PLACE, "clash(1, 0, 10, 0)", of -> of.clash(1, 0, 10, 0));
    }

    private static void searchesThatAreRefused() {
        CHECK.says("Promises 13 to 16", "IllegalArgumentException; IndexOutOfBoundsException; 0, doing nothing: k is "
                + "below 0; -1: then there is no SEARCH");
        nothing(ARGUMENT, "many(8, 3, 4)", of -> of.many(8, 3, 4));
        nothing(ARGUMENT, "many(1, 9, 4)", of -> of.many(1, 9, 4));
        nothing(ARGUMENT, "many(1, 3, 61)", of -> of.many(1, 3, 61));
        nothing(ARGUMENT, "find(8, 3, 4, 0, 0)", of -> of.find(8, 3, 4, 0, 0));
        nothing(ARGUMENT, "find(1, 0, 4, 0, 0)", of -> of.find(1, 0, 4, 0, 0));
        nothing(ARGUMENT, "find(1, 3, -1, 0, 0)", of -> of.find(1, 3, -1, 0, 0));
        nothing(PLACE, "find(1, 3, 4, 0, 2)", of -> of.find(1, 3, 4, 0, 2));
        nothing("0", "find(1, 3, 4, -1, 0)", of -> of.find(1, 3, 4, -1, 0));
        nothing(ARGUMENT, "rank(8, 3, 0, 0)", of -> of.rank(8, 3, 0, 0));
        nothing(ARGUMENT, "rank(1, 9, 0, 0)", of -> of.rank(1, 9, 0, 0));
        nothing(PLACE, "rank(1, 3, 0, 10)", of -> of.rank(1, 3, 0, 10));
        nothing("-1", "rank of no word", of -> of.rank(1, 3, 0, NO_WORD));
        nothing("-1", "rank of 61", of -> of.rank(1, 3, 0, LONG));
        nothing("-1", "rank of a letter beyond", of -> of.rank(1, 7, 1, 1));
        nothing("-1", "rank of what is not kept", of -> of.rank(1, 3, 0, 5));
        nothing(ARGUMENT, "longest(8, 3)", of -> of.longest(8, 3));
        nothing(ARGUMENT, "longest(1, 0)", of -> of.longest(1, 0));
    }

    private static void searchesThatChangeTheLooksAlone() {
        CHECK.says("Promises 13 to 16", "0, doing nothing: there are fewer; -2, doing nothing: SPENT");
        looksAlone("18", "many(1, 3, 4)", of -> of.many(1, 3, 4));
        looksAlone("-2", "many(0, 8, 60)", of -> of.many(0, 8, 60));
        looksAlone("0", "find(1, 3, 4, 18, 1)", of -> of.find(1, 3, 4, 18, 1));
        looksAlone("-2", "find(0, 8, 60, 20000, 1)", of -> of.find(0, 8, 60, 20000, 1));
        looksAlone("-2", "find with a shape", of -> of.find(2, 8, 60, 0, 1));
        looksAlone("1", "rank(1, 2, 0, 1)", of -> of.rank(1, 2, 0, 1));
        looksAlone("-2", "rank(0, 2, 0, 7)", of -> of.rank(0, 2, 0, 7));
        looksAlone("3", "longest(1, 2)", of -> of.longest(1, 2));
        looksAlone("-1", "longest(0, 1)", of -> of.longest(0, 1));
        looksAlone("-1", "longest(4, 2)", of -> of.longest(4, 2));
    }

    private static void mapsThatAreRefused() {
        CHECK.says("Promise 17", "0, and it stays as it was; IllegalArgumentException; IndexOutOfBoundsException");
        nothing("0", "map of no word", of -> of.map(0, 2, 0, 1));
        nothing("0", "map of the empty word", of -> of.map(0, 2, 0, 4));
        nothing("0", "map of a letter beyond", of -> of.map(0, 1, 0, 0));
        nothing("0", "map of a word of 31", of -> of.map(0, 2, 0, 6));
        nothing("0", "map that is not made", of -> of.map(7, 2, 0, 8));
        nothing(ARGUMENT, "map(8, 2, 0, 0)", of -> of.map(8, 2, 0, 0));
        nothing(ARGUMENT, "map(-1, 2, 0, 0)", of -> of.map(-1, 2, 0, 0));
        nothing(ARGUMENT, "map(1, 9, 0, 0)", of -> of.map(1, 9, 0, 0));
        nothing(ARGUMENT, "map(1, 0, 0, 0)", of -> of.map(1, 0, 0, 0));
        nothing(PLACE, "map(1, 2, 0, 9)", of -> of.map(1, 2, 0, 9));
        nothing(PLACE, "map(1, 2, 2, 0)", of -> of.map(1, 2, 2, 0));
    }

    private static void imagesThatAreRefused() {
        CHECK.says("Promises 18 to 20", "-1; -2; NoSuchElementException; IndexOutOfBoundsException");
        nothing("-1", "image of no word", of -> of.image(0, 0, NO_WORD, 1));
        nothing("-1", "image of a letter beyond", of -> of.image(0, 1, 1, 1));
        nothing("-2", "image of 62", of -> of.image(0, 0, 7, 1));
        nothing(ELEMENT, "image(2, 0, 0, 1)", of -> of.image(2, 0, 0, 1));
        nothing(ELEMENT, "image(8, 0, 0, 1)", of -> of.image(8, 0, 0, 1));
        nothing(PLACE, "image(0, 2, 0, 1)", of -> of.image(0, 2, 0, 1));
        nothing(PLACE, "image(0, 0, 10, 1)", of -> of.image(0, 0, 10, 1));
        nothing(PLACE, "image(0, 0, 0, 2)", of -> of.image(0, 0, 0, 2));
        nothing(ELEMENT, "keeps(2, 1)", of -> of.keeps(2, 1));
        nothing(ELEMENT, "keeps(-1, 1)", of -> of.keeps(-1, 1));
        nothing(PLACE, "keeps(0, 2)", of -> of.keeps(0, 2));
        nothing(ELEMENT, "at(2, 0, 0)", of -> of.at(2, 0, 0));
        nothing("-1", "at(0, 2, 0)", of -> of.at(0, 2, 0));
        nothing("-1", "at(0, 0, -1)", of -> of.at(0, 0, -1));
        nothing("1", "at(0, 0, 2147483647)", of -> of.at(0, 0, Integer.MAX_VALUE));
    }

    private static void shapesThatAreAsked() {
        CHECK.says("Promise 21", "shape only tells");
        nothing("1", "shape(1, 0)", of -> of.shape(1, 0));
        nothing("1", "shape(1, 1)", of -> of.shape(1, 1));
        nothing("2", "shape(1, 2)", of -> of.shape(1, 2));
        nothing("-1", "shape(0, 0)", of -> of.shape(0, 0));
        nothing(PLACE, "shape(3, 0)", of -> of.shape(3, 0));
        nothing(PLACE, "shape(-1, 0)", of -> of.shape(-1, 0));
        nothing(ARGUMENT, "shape(1, -1)", of -> of.shape(1, -1));
    }

    public static void main(String[] args) {
        allAnswersSeeEachPart();
        sheetsThatAreRefused();
        rowsThatAreRefused();
        wordsThatAreAsked();
        lawsThatAreRefused();
        powersThatAreAsked();
        searchesThatAreRefused();
        searchesThatChangeTheLooksAlone();
        mapsThatAreRefused();
        imagesThatAreRefused();
        shapesThatAreAsked();
        CHECK.end();
    }
}
