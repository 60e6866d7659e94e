/** Promises 17 to 20: map, image, keeps, at. */
public final class MapsTest {
    private static final Check CHECK = new Check("MapsTest");
    private static final String[] LEECH = {"0121021201210", "1202102012021", "2010210120102"};

    private static int[] lettersOf(String word) {
        return word.chars().map(sign -> sign - '0').toArray();
    }

    /** Two SHEETS, the first one with a map's WORDS as ROWS 0 on, and MAP 0 made of them. */
    private static WordBench benchWithMap(String... words) {
        WordBench bench = Check.benchWithSheet();
        bench.sheet(0);
        tellMap(bench, words);
        CHECK.due(1, "map", () -> bench.map(0, words.length, 0, 0));
        return bench;
    }

    private static void tellMap(WordBench bench, String... words) {
        for (int x = 0; x < words.length; x++) {
            Check.fill(bench, 0, x, lettersOf(words[x]));
        }
    }

    private static void looks(WordBench bench, int want) {
        CHECK.due(want, "looks", () -> bench.count(2));
    }

    private static void mapsThatAreNotMade() {
        WordBench bench = benchWithMap("01", "10");
        String[] wrong = {"", "02", "000000000000000000000", "08"};
        for (String word : wrong) {
            tellMap(bench, "10", word);
            CHECK.due(0, "map with " + word, () -> bench.map(0, 2, 0, 0));
            CHECK.due(0, "map 1 with " + word, () -> bench.map(1, 2, 0, 0));
            tellMap(bench, word, "10");
            CHECK.due(0, "map with " + word + " first", () -> bench.map(0, 2, 0, 0));
        }
        tellMap(bench, "20", "10");
        CHECK.due(0, "a first letter beyond", () -> bench.map(0, 2, 0, 0));
        tellMap(bench, "10");
        bench.tear(0, 1);
        CHECK.due(0, "map with a missing row", () -> bench.map(0, 2, 0, 0));
        CHECK.due(1, "the map stays as it was", () -> bench.at(0, 0, 1));
        CHECK.elementRefused("a map that was never made", () -> bench.at(1, 0, 0));
        tellMap(bench, "00000000000000000000", "1");
        CHECK.due(1, "a word of 20", () -> bench.map(0, 2, 0, 0));
    }

    private static void wrongMaps() {
        WordBench bench = benchWithMap("01", "10");
        CHECK.argumentRefused("map -1", () -> bench.map(-1, 2, 0, 0));
        CHECK.argumentRefused("map 8", () -> bench.map(8, 2, 9, 0));
        CHECK.argumentRefused("alphabet 0", () -> bench.map(0, 0, 0, 0));
        CHECK.argumentRefused("alphabet 9", () -> bench.map(0, 9, 9, 0));
        CHECK.placeRefused("no such sheet", () -> bench.map(0, 2, 2, 0));
        CHECK.placeRefused("row -1", () -> bench.map(0, 2, 0, -1));
        CHECK.placeRefused("the last row is 10", () -> bench.map(0, 2, 0, 9));
        CHECK.placeRefused("a row far out", () -> bench.map(0, 2, 0, Integer.MAX_VALUE));
        CHECK.due(0, "the last row is 9, and missing", () -> bench.map(0, 2, 0, 8));
        Check.fill(bench, 0, 9, 0);
        CHECK.due(1, "row 9 alone", () -> bench.map(7, 1, 0, 9));
    }

    private static void mapsDoNotFollowTheirRows() {
        WordBench bench = benchWithMap("01", "10");
        tellMap(bench, "11", "11");
        Check.fill(bench, 0, 5, 0, 1);
        CHECK.due(4, "image", () -> bench.image(0, 0, 5, 1));
        CHECK.holds(bench, 1, 0, 0, 1, 1, 0);
        CHECK.due(1, "made anew", () -> bench.map(0, 2, 0, 0));
        CHECK.due(4, "image", () -> bench.image(0, 0, 5, 1));
        CHECK.holds(bench, 1, 0, 1, 1, 1, 1);
    }

    private static void imagesOfWords() {
        WordBench bench = benchWithMap("1", "20", "012");
        Check.fill(bench, 1, 0, 2, 0, 1);
        CHECK.due(6, "image onto itself", () -> bench.image(0, 1, 0, 1));
        CHECK.holds(bench, 1, 0, 0, 1, 2, 1, 2, 0);
        Check.fill(bench, 0, 5, 2, 3);
        Check.fill(bench, 0, 6, 2, 8);
        CHECK.due(-1, "a letter beyond", () -> bench.image(0, 0, 5, 1));
        CHECK.due(-1, "no word", () -> bench.image(0, 0, 6, 1));
        CHECK.due(6, "the row stays", () -> bench.word(1, 0));
        CHECK.due(0, "image of the empty word", () -> bench.image(0, 0, 9, 1));
        CHECK.due(0, "a row of none", () -> bench.tear(1, 0));
    }

    private static void longImages() {
        WordBench bench = benchWithMap("000", "11111111111111111111");
        bench.row(0, 5, 20);
        CHECK.due(60, "an image of 60", () -> bench.image(0, 0, 5, 1));
        CHECK.due(60, "its letters", () -> bench.word(1, 0));
        bench.row(0, 5, 21);
        CHECK.due(-2, "an image of 63", () -> bench.image(0, 0, 5, 1));
        CHECK.due(60, "the row stays", () -> bench.word(1, 0));
        bench.row(0, 5, 60);
        for (int i = 0; i < 60; i++) {
            bench.put(0, 5, i, 1);
        }
        CHECK.due(-2, "an image of 1200", () -> bench.image(0, 0, 5, 1));
        bench.put(0, 5, 59, 2);
        CHECK.due(-1, "no image ahead of a long one", () -> bench.image(0, 0, 5, 1));
    }

    private static void wrongImages() {
        WordBench bench = benchWithMap("01", "10");
        CHECK.elementRefused("map -1", () -> bench.image(-1, 0, 0, 0));
        CHECK.elementRefused("map 8, first", () -> bench.image(8, 9, 9, 9));
        CHECK.elementRefused("map 1 is not made", () -> bench.image(1, 0, 0, 1));
        CHECK.placeRefused("no such sheet", () -> bench.image(0, 2, 0, 0));
        CHECK.placeRefused("no such row", () -> bench.image(0, 0, 10, 0));
        CHECK.placeRefused("no such sheet for it", () -> bench.image(0, 0, 0, 2));
    }

    /** MAP m KEEPS not, and this is its FAILURE. */
    private static void fails(String failure, int looks, String... words) {
        WordBench bench = benchWithMap(words);
        CHECK.due(0, "keeps", () -> bench.keeps(0, 1));
        looks(bench, looks);
        CHECK.holds(bench, 1, 0, lettersOf(failure));
    }

    private static void mapsThatKeep(int looks, String... words) {
        WordBench bench = benchWithMap(words);
        bench.row(1, 0, 70);
        CHECK.due(1, "keeps", () -> bench.keeps(0, 1));
        looks(bench, looks);
        CHECK.due(70, "the row stays", () -> bench.tear(1, 0));
    }

    private static void mapsThatAreLookedAt() {
        mapsThatKeep(48, LEECH);
        mapsThatKeep(8, "0");
        mapsThatKeep(95, "20", "13", "212023", "2103");
        mapsThatKeep(6995, "2013", "1", "210302123", "0");
        mapsThatKeep(6995, "012320103", "1", "0213", "2");
        mapsThatKeep(905, "13", "01023012102", "03201320232", "031201323");
        fails("0", 2, "00", "1");
        fails("1", 3, "01", "11");
        fails("01", 7, "01", "10");
        fails("010", 22, "012", "02", "1");
        fails("1032", 166, "3", "10302", "1023012", "0");
        fails("0", 2, "00000000000000000000");
    }

    private static void looksOfAMapAreSpentTogether() {
        WordBench bench = benchWithMap("4", "6561", "2", "60241", "63024051", "3", "0");
        bench.row(1, 0, 70);
        CHECK.due(-2, "keeps", () -> bench.keeps(0, 1));
        looks(bench, 20000);
        CHECK.due(70, "the row stays", () -> bench.tear(1, 0));
    }

    private static void wrongKeeps() {
        WordBench bench = benchWithMap("01", "10");
        CHECK.elementRefused("map 8, first", () -> bench.keeps(8, 9));
        CHECK.elementRefused("map -1", () -> bench.keeps(-1, 0));
        CHECK.placeRefused("no such sheet", () -> bench.keeps(0, 2));
        CHECK.placeRefused("sheet -1", () -> bench.keeps(0, -1));
        looks(bench, 0);
    }

    private static void lettersOfTheThueMorseRow() {
        WordBench bench = benchWithMap("01", "10");
        int[] places = {0, 1, 2, 3, 4, 5, 1000, 65535, 1 << 30, Integer.MAX_VALUE - 1, Integer.MAX_VALUE};
        for (int place : places) {
            int ones = Integer.bitCount(place) % 2;
            CHECK.due(ones, "letter at " + place, () -> bench.at(0, 0, place));
            CHECK.due(1 - ones, "letter at " + place + " from 1", () -> bench.at(0, 1, place));
        }
    }

    private static void lettersOfARowOfUnevenWords() {
        String[] words = {"012", "20", "1121"};
        WordBench bench = benchWithMap(words);
        StringBuilder row = new StringBuilder("0");
        for (int i = 0; row.length() < 3000; i++) {
            if (i == 0) {
                row.setLength(0);
            }
            row.append(words[i == 0 ? 0 : row.charAt(i) - '0']);
        }
        for (int i = 0; i < 3000; i++) {
            int place = i;
            CHECK.due(row.charAt(i) - '0', "letter at " + i, () -> bench.at(0, 0, place));
        }
    }

    /** The word for x is x, x + 1, .. by eight, twenty letters: at a place its digits by twenty are added. */
    private static void lettersFarOutOfTheWidestMap() {
        String[] words = new String[8];
        for (int x = 0; x < 8; x++) {
            words[x] = "01234567012345670123456701234567".substring(x, x + 20);
        }
        WordBench bench = benchWithMap(words);
        int[] places = {0, 19, 20, 399, 400, 159999, 1279999999, 1280000000, 2000000000, Integer.MAX_VALUE};
        for (int place : places) {
            int sum = 0;
            for (int rest = place; rest > 0; rest /= 20) {
                sum += rest % 20;
            }
            for (int a = 0; a < 8; a++) {
                int from = a;
                CHECK.due((a + sum) % 8, "letter at " + place, () -> bench.at(0, from, place));
            }
        }
    }

    private static void rowsThatDoNotGrow() {
        WordBench bench = benchWithMap("01", "20", "22");
        CHECK.due(-1, "the word for 1 begins with 2", () -> bench.at(0, 1, 0));
        CHECK.due(2, "the word for 2 begins with 2", () -> bench.at(0, 2, Integer.MAX_VALUE));
        CHECK.due(-1, "a letter beyond", () -> bench.at(0, 3, 0));
        CHECK.due(-1, "letter 8", () -> bench.at(0, 8, 0));
        CHECK.due(-1, "letter -1", () -> bench.at(0, -1, 0));
        CHECK.due(-1, "place -1", () -> bench.at(0, 0, -1));
        CHECK.due(-1, "the least place", () -> bench.at(0, 0, Integer.MIN_VALUE));
        CHECK.elementRefused("map -1", () -> bench.at(-1, 0, 0));
        CHECK.elementRefused("map 1", () -> bench.at(1, 0, 0));
        CHECK.elementRefused("map 8", () -> bench.at(8, 0, 0));
        WordBench last = benchWithMap("01", "12", "2");
        CHECK.due(-1, "a word of one letter", () -> last.at(0, 0, 0));
        WordBench first = benchWithMap("0", "12", "20");
        CHECK.due(-1, "a first word of one letter", () -> first.at(0, 1, 0));
    }

    private static void smallerAlphabetForgetsTheOldWords() {
        WordBench bench = benchWithMap("01", "12", "2");
        tellMap(bench, "01", "11");
        CHECK.due(1, "map", () -> bench.map(0, 2, 0, 0));
        CHECK.due(1, "letter 2's short word is gone", () -> bench.at(0, 0, 77));
        CHECK.due(-1, "letter 2 is gone", () -> bench.at(0, 2, 0));
    }

    public static void main(String[] args) {
        mapsThatAreNotMade();
        wrongMaps();
        mapsDoNotFollowTheirRows();
        imagesOfWords();
        longImages();
        wrongImages();
        mapsThatAreLookedAt();
        looksOfAMapAreSpentTogether();
        wrongKeeps();
        lettersOfTheThueMorseRow();
        lettersOfARowOfUnevenWords();
        lettersFarOutOfTheWidestMap();
        rowsThatDoNotGrow();
        smallerAlphabetForgetsTheOldWords();
        CHECK.end();
    }
}
