import java.util.ArrayList;
import java.util.List;

/** All that can be asked of a bench, so that two that were made alike can be held against each other. */
final class Twins {
    /** What is done to a bench, or asked of it. */
    interface Asked {
        int ask(WordBench bench);
    }

    private static final int MAPS = 8;

    private final WordBench bench;
    private final List<String> answers = new ArrayList<>();

    private Twins(WordBench bench) {
        this.bench = bench;
    }

    private int ask(String what, Asked asked) {
        int[] answer = {0};
        answers.add(what + " " + Check.outcome(() -> answer[0] = asked.ask(bench)));
        return answer[0];
    }

    private void counts() {
        for (int what = 0; what < 3; what++) {
            int asked = what;
            ask("count " + what, of -> of.count(asked));
        }
    }

    private void laws() {
        int laws = bench.count(1);
        for (int i = 0; i < laws; i++) {
            int law = i;
            ask("shape of law " + law, of -> of.shape(law, 3));
            ask("words by law " + law, of -> of.many(1 << law, 3, 4));
        }
    }

    /** A ROW's WORD and how many numbers it has; the ROW is torn. */
    private void rowAndTear(int sheet, int k) {
        String name = "row " + k + " of sheet " + sheet;
        int letters = ask("word of " + name, of -> of.word(sheet, k));
        for (int i = 0; i < letters; i++) {
            int place = i;
            ask("letter of " + name, of -> of.letter(sheet, k, place));
        }
        ask("numbers of " + name, of -> of.tear(sheet, k));
    }

    /** Not of every SHEET, for a bench has but 512 calls. */
    private void rows() {
        int last = bench.count(0) - 1;
        for (int sheet : new int[] {0, 1, last}) {
            for (int k = 0; k < 10; k++) {
                rowAndTear(sheet, k);
            }
        }
    }

    /** The ROWS are torn by now; the first SHEET's are used to ask what each MAP makes of 0 and of 1. */
    private void maps() {
        for (int i = 0; i < MAPS; i++) {
            int m = i;
            for (int letter = 0; letter < 2; letter++) {
                Check.fill(bench, 0, 1, letter);
                if (ask("image of " + letter + " by map " + m, of -> of.image(m, 0, 1, 0)) > 0) {
                    rowAndTear(0, 0);
                }
            }
        }
    }

    /** What a bench answers to all these calls; it is used up by them. */
    static List<String> allAnswers(WordBench bench) {
        Twins one = new Twins(bench);
        one.counts();
        one.laws();
        one.rows();
        one.maps();
        return one.answers;
    }
}
