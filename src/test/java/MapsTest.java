import java.util.Arrays;

/** Part 4 of the terms and promises 17 to 20: map, image, keeps, at. */
public final class MapsTest {
    private static final Check CHECK = new Check("MapsTest");
    private static final int LEAST = Integer.MIN_VALUE;
    private static final int MOST = Integer.MAX_VALUE;
    private static final String TWENTY = "00000000000000000000";
    private static final String[] LEECH = {"0121021201210", "1202102012021", "2010210120102"};

    private static void tellMap(WordBench bench, String... words) {
        for (int x = 0; x < words.length; x++) {
            Check.fill(bench, 0, x, words[x]);
        }
    }

    /** Two SHEETS, the first one with a map's WORDS as ROWS 0 on, and MAP 0 made of them. */
    private static WordBench benchWithMap(String... words) {
        WordBench bench = Check.benchWithSheet();
        bench.sheet(0);
        tellMap(bench, words);
        CHECK.due(1, "map " + Arrays.toString(words), () -> bench.map(0, words.length, 0, 0));
        return bench;
    }

    /** What MAP m of a bench makes of one letter. */
    private static void imageIs(WordBench bench, int m, int letter, String image) {
        Check.fill(bench, 1, 9, letter);
        CHECK.due(image.length(), "image of " + letter + " by map " + m, () -> bench.image(m, 1, 9, 1));
        CHECK.holds(bench, 1, 0, image);
    }

    private static void mapsAreEight() {
        CHECK.says("Terms 4", "MAPS 0 to 7");
        WordBench bench = Check.benchWithSheet();
        bench.sheet(0);
        for (int m : new int[] {0, 1, 2, 3, 4, 5, 6, 7}) {
            Check.fill(bench, 0, 0, m % 2);
            Check.fill(bench, 0, 1, m / 2 % 2);
            CHECK.elementRefused("map " + m + " is not there yet", () -> bench.image(m, 0, 0, 1));
            CHECK.due(1, "map " + m, () -> bench.map(m, 2, 0, 0));
        }
        for (int m : new int[] {0, 1, 2, 3, 4, 5, 6, 7}) {
            imageIs(bench, m, 0, "" + m % 2);
            imageIs(bench, m, 1, "" + m / 2 % 2);
        }
    }

    private static void mapsHaveWordsOfOneToTwenty() {
        CHECK.says("Terms 4", "for each LETTER below an ALPHABET a WORD of 1 to 20 letters");
        WordBench bench = benchWithMap("1", TWENTY);
        imageIs(bench, 0, 0, "1");
        imageIs(bench, 0, 1, TWENTY);
        for (String word : new String[] {"", TWENTY + "0", "0".repeat(60), "0".repeat(61)}) {
            tellMap(bench, "0", word);
            CHECK.due(0, "a last word of " + word.length(), () -> bench.map(0, 2, 0, 0));
            tellMap(bench, word, "0");
            CHECK.due(0, "a first word of " + word.length(), () -> bench.map(0, 2, 0, 0));
        }
        imageIs(bench, 0, 0, "1");
    }

    private static void mapsHaveLettersBelowTheAlphabet() {
        CHECK.says("Terms 4", "letters below the ALPHABET");
        imageIs(benchWithMap("1", "7", "7", "7", "7", "7", "7", "01234567"), 0, 7, "01234567");
        for (int alphabet : new int[] {1, 2, 3, 4, 5, 6, 7}) {
            String[] words = new String[alphabet];
            Arrays.fill(words, "0");
            words[alphabet - 1] = "0".repeat(19) + (alphabet - 1);
            WordBench bench = benchWithMap(words);
            bench.put(0, alphabet - 1, 19, alphabet);
            CHECK.due(0, "its last letter is beyond", () -> bench.map(0, alphabet, 0, 0));
            bench.put(0, alphabet - 1, 19, 0);
            bench.put(0, 0, 0, alphabet);
            CHECK.due(0, "its first letter is beyond", () -> bench.map(0, alphabet, 0, 0));
            imageIs(bench, 0, alphabet - 1, words[alphabet - 1]);
        }
    }

    private static void mapIsMadeOfRows() {
        CHECK.says("Promise 17", "MAP m is made of the ROWS from on of a SHEET, as many as the ALPHABET has: 1");
        WordBench bench = benchWithMap("0", "1", "2");
        Check.fill(bench, 1, 7, "10");
        Check.fill(bench, 1, 8, "21");
        Check.fill(bench, 1, 9, "02");
        CHECK.due(1, "rows 7 to 9", () -> bench.map(0, 3, 1, 7));
        Check.fill(bench, 1, 7, "1");
        bench.tear(1, 8);
        Check.fill(bench, 0, 5, "012");
        CHECK.due(6, "image", () -> bench.image(0, 0, 5, 1));
        CHECK.holds(bench, 1, 0, "102102");
        Check.fill(bench, 1, 9, "0");
        CHECK.due(1, "row 9 alone, in the place of it", () -> bench.map(0, 1, 1, 9));
        CHECK.due(-1, "the letters beyond are gone", () -> bench.image(0, 0, 5, 1));
        imageIs(bench, 0, 0, "0");
    }

    private static void mapOfEightLetters() {
        CHECK.says("Promise 17", "as many as the ALPHABET has, all eight");
        WordBench bench = benchWithMap("7", "6", "5", "4", "3", "2", "1", "0");
        Check.fill(bench, 0, 9, "01234567");
        CHECK.due(8, "image", () -> bench.image(0, 0, 9, 1));
        CHECK.holds(bench, 1, 0, "76543210");
        Check.fill(bench, 0, 8, "1");
        Check.fill(bench, 0, 9, "00");
        CHECK.due(1, "rows 2 to 9", () -> bench.map(0, 8, 0, 2));
        imageIs(bench, 0, 7, "00");
        CHECK.placeRefused("rows 3 to 10", () -> bench.map(0, 8, 0, 3));
    }

    private static void mapStaysAsItWas() {
        CHECK.says("Promise 17", "0, and it stays as it was: one is no such WORD");
        WordBench bench = benchWithMap("01", "10");
        int[][] wrong = {{}, {2}, {8}, {-1}, {0, 2}, {0, 8}, new int[21], new int[61]};
        for (int[] word : wrong) {
            for (int k : new int[] {0, 1}) {
                tellMap(bench, "1", "0");
                Check.fill(bench, 0, k, word);
                CHECK.due(0, "map with row " + k + " " + Arrays.toString(word), () -> bench.map(0, 2, 0, 0));
                CHECK.due(0, "map 1 with it", () -> bench.map(1, 2, 0, 0));
            }
        }
        bench.tear(0, 1);
        CHECK.due(0, "map with a missing row", () -> bench.map(0, 2, 0, 0));
        imageIs(bench, 0, 0, "01");
        imageIs(bench, 0, 1, "10");
        CHECK.elementRefused("a map that was never made", () -> bench.at(1, 0, 0));
    }

    private static void mapsOfNoNumberOrAlphabet() {
        CHECK.says("Promise 17", "IllegalArgumentException: no such MAP, the ALPHABET is not 1 to 8");
        WordBench bench = benchWithMap("0", "1");
        for (int wrong : new int[] {-1, 8, LEAST, MOST}) {
            CHECK.argumentRefused("map " + wrong, () -> bench.map(wrong, 2, 0, 0));
            CHECK.argumentRefused("map " + wrong + " comes first", () -> bench.map(wrong, 2, 2, 10));
        }
        for (int wrong : new int[] {-1, 0, 9, LEAST, MOST}) {
            CHECK.argumentRefused("alphabet " + wrong, () -> bench.map(0, wrong, 0, 0));
            CHECK.argumentRefused("alphabet " + wrong + " comes first", () -> bench.map(0, wrong, 2, 10));
        }
    }

    private static void mapsOfNoRows() {
        CHECK.says("Promise 17", "IndexOutOfBoundsException likewise (also for the last one)");
        WordBench bench = benchWithMap("0", "1");
        for (int sheet : new int[] {-1, 2, 16, LEAST, MOST}) {
            CHECK.placeRefused("sheet " + sheet, () -> bench.map(0, 2, sheet, 0));
        }
        for (int from : new int[] {-1, -2, 9, 10, LEAST, MOST, MOST - 1}) {
            CHECK.placeRefused("from " + from, () -> bench.map(0, 2, 0, from));
        }
        for (int alphabet : new int[] {1, 2, 3, 4, 5, 6, 7, 8}) {
            int last = 10 - alphabet;
            for (int k = 0; k < 10; k++) {
                bench.row(0, k, 1);
            }
            CHECK.due(1, "the last row is 9", () -> bench.map(0, alphabet, 0, last));
            CHECK.placeRefused("the last row is 10", () -> bench.map(0, alphabet, 0, last + 1));
        }
    }

    private static void imageComesAsRowZero() {
        CHECK.says("Promise 18", "The IMAGE of the WORD of a ROW by MAP m comes as ROW 0 of a SHEET: how many letters");
        WordBench bench = benchWithMap("1", "20", "012");
        bench.row(1, 0, 80);
        Check.fill(bench, 1, 1, "201");
        CHECK.due(6, "image for a row of 80", () -> bench.image(0, 1, 1, 1));
        CHECK.holds(bench, 1, 0, "012120");
        CHECK.holds(bench, 1, 1, "201");
        CHECK.due(12, "image onto itself", () -> bench.image(0, 1, 0, 1));
        CHECK.holds(bench, 1, 0, "120012200121");
        CHECK.due(12, "how many it has", () -> bench.tear(1, 0));
        CHECK.due(6, "image for a missing row", () -> bench.image(0, 1, 1, 1));
    }

    private static void imageOfTheEmptyWord() {
        CHECK.says("Promise 18", "The IMAGE of the WORD of a ROW, an empty one");
        WordBench bench = benchWithMap("1", "20", "012");
        bench.row(0, 8, 0);
        for (int k : new int[] {8, 9}) {
            bench.row(1, 0, 70);
            CHECK.due(0, "image of row " + k, () -> bench.image(0, 0, k, 1));
            CHECK.due(0, "a row of none, not a missing one", () -> bench.tear(1, 0));
        }
    }

    private static void imageOfNoWord() {
        CHECK.says("Promise 18", "-1: the ROW is no WORD, or has a letter beyond the ALPHABET");
        WordBench bench = benchWithMap("1", "20", "012");
        bench.row(1, 0, 70);
        int[][] wrong = {{8}, {-1}, {2, 8}, {3}, {2, 3}, {3, 0}, {7}, new int[61]};
        for (int[] word : wrong) {
            Check.fill(bench, 0, 5, word);
            CHECK.due(-1, "image of " + Arrays.toString(word), () -> bench.image(0, 0, 5, 1));
        }
        CHECK.due(70, "the row stays", () -> bench.tear(1, 0));
        Check.fill(bench, 0, 5, "2");
        CHECK.due(3, "the last letter of the alphabet", () -> bench.image(0, 0, 5, 1));
    }

    private static void imageOfMoreThanSixty() {
        CHECK.says("Promise 18", "-2: the IMAGE has more than 60");
        WordBench bench = benchWithMap("1", TWENTY, "22");
        Check.fill(bench, 0, 5, "111");
        CHECK.due(60, "an image of 60", () -> bench.image(0, 0, 5, 1));
        CHECK.holds(bench, 1, 0, "0".repeat(60));
        Check.fill(bench, 0, 5, "0".repeat(60));
        CHECK.due(60, "an image of 60", () -> bench.image(0, 0, 5, 1));
        CHECK.holds(bench, 1, 0, "1".repeat(60));
        bench.put(0, 5, 59, 2);
        CHECK.due(-2, "an image of 61", () -> bench.image(0, 0, 5, 1));
        CHECK.holds(bench, 1, 0, "1".repeat(60));
        bench.put(0, 5, 0, 3);
        CHECK.due(-1, "a letter beyond comes first", () -> bench.image(0, 0, 5, 1));
    }

    private static void imageOfFarMoreThanSixty() {
        CHECK.says("Promise 18", "-2: the IMAGE has more than 60, up to 1200");
        WordBench bench = benchWithMap("1", TWENTY, "22");
        bench.row(1, 0, 70);
        for (String word : new String[] {"1110", "2".repeat(31), "1".repeat(18), "1".repeat(19), "1".repeat(60)}) {
            Check.fill(bench, 0, 5, word);
            CHECK.due(-2, "image of " + word, () -> bench.image(0, 0, 5, 1));
        }
        CHECK.due(70, "the row stays", () -> bench.tear(1, 0));
    }

    private static void mapsThatAreNotMade() {
        CHECK.says("Promise 18", "NoSuchElementException: MAP m is not made (first, so below)");
        WordBench bench = benchWithMap("01", "10");
        for (int m : new int[] {-1, 1, 7, 8, LEAST, MOST}) {
            CHECK.elementRefused("image of map " + m, () -> bench.image(m, 0, 0, 1));
            CHECK.elementRefused("image, first", () -> bench.image(m, 9, 10, 9));
            CHECK.elementRefused("keeps of map " + m, () -> bench.keeps(m, 0));
            CHECK.elementRefused("keeps, first", () -> bench.keeps(m, 9));
            CHECK.elementRefused("at of map " + m, () -> bench.at(m, 0, 0));
            CHECK.elementRefused("at, first", () -> bench.at(m, 9, -1));
        }
    }

    private static void imagesInNoRow() {
        CHECK.says("Promise 18", "throws NoSuchElementException, IndexOutOfBoundsException");
        WordBench bench = benchWithMap("01", "10");
        Check.fill(bench, 0, 5, 8);
        for (int sheet : new int[] {-1, 2, 16, LEAST, MOST}) {
            CHECK.placeRefused("of sheet " + sheet, () -> bench.image(0, sheet, 0, 1));
            CHECK.placeRefused("to sheet " + sheet, () -> bench.image(0, 0, 0, sheet));
            CHECK.placeRefused("of no word to sheet " + sheet, () -> bench.image(0, 0, 5, sheet));
        }
        for (int k : new int[] {-1, 10, LEAST, MOST}) {
            CHECK.placeRefused("of row " + k, () -> bench.image(0, 0, k, 1));
        }
    }

    /** keeps() answers so, takes so many LOOKS, and brings no FAILURE. */
    private static void bringsNone(int answer, int looks, String... words) {
        WordBench bench = benchWithMap(words);
        bench.row(1, 0, 70);
        CHECK.due(answer, Arrays.toString(words) + " keeps", () -> bench.keeps(0, 1));
        CHECK.looks(bench, looks);
        CHECK.due(70, "the row stays", () -> bench.tear(1, 0));
    }

    private static void keeps(int looks, String... words) {
        bringsNone(1, looks, words);
    }

    private static void spends(String... words) {
        bringsNone(-2, 20000, words);
    }

    private static void fails(String failure, int looks, String... words) {
        WordBench bench = benchWithMap(words);
        bench.row(1, 0, 70);
        Check.fill(bench, 1, 1, "7");
        CHECK.due(0, Arrays.toString(words) + " keeps", () -> bench.keeps(0, 1));
        CHECK.looks(bench, looks);
        CHECK.holds(bench, 1, 0, failure);
        CHECK.due(failure.length(), "how many it has", () -> bench.tear(1, 0));
        CHECK.holds(bench, 1, 1, "7");
    }

    /** The LOOKS tell up to how many letters was SEARCHED: over four letters 95 up to 3, 308 to 4, 905 to 5 .. */
    private static void mapsAreLookedAtUpToThree() {
        CHECK.says("Terms 4", "L the greater of 3");
        keeps(8, "0");
        keeps(21, "1", "0");
        keeps(48, "1", "2", "0");
        keeps(48, LEECH);
        keeps(603, "7", "0", "1", "2", "3", "4", "5", "6");
        keeps(95, "0", "3201", "2", "3021");
        keeps(95, "0", "12023", "103", "2");
        keeps(95, "23", "2131230", "2120", "10");
        keeps(95, "201", "031230203", "213", "023");
    }

    private static void mapsAreLookedAtFurther() {
        CHECK.says("Terms 4", "and 1 + (M - 3) / m, rounded up (M the most, m the fewest letters of the MAP's WORDS)");
        keeps(308, "0", "231213", "21", "203");
        keeps(905, "2", "0121031", "3", "021");
        keeps(18824, "0", "2301203021", "3", "201");
        keeps(308, "02", "30213012", "3212", "31");
        keeps(308, "13", "213013123", "203", "023");
        keeps(905, "02", "1303101312", "1012", "32");
        keeps(905, "21", "23012013010", "30", "2320");
        keeps(2558, "03", "102123012013", "1213", "23");
        keeps(308, "021", "3202313032", "301", "312");
        keeps(308, "132", "130232031320", "103", "123");
        keeps(905, "103", "2120310213012", "023", "013");
    }

    private static void failureIsTheFirstOne() {
        CHECK.says("Terms 4", "the first one whose IMAGE has such a SPAN is its FAILURE");
        fails("0", 2, "00");
        fails("0", 2, "00", "1");
        fails("0", 2, "000", "11");
        fails("0", 2, TWENTY);
        fails("1", 3, "01", "11");
        fails("01", 7, "01", "10");
        fails("01", 7, "0", "0");
        fails("02", 9, "1", "02", "10");
        fails("010", 22, "012", "02", "1");
    }

    private static void failuresOfTheMostLetters() {
        CHECK.says("Terms 4", "such WORDS of 1, 2, .. up to L letters are SEARCHED for");
        fails("1030", 164, "1", "021312", "032", "3");
        fails("10301", 495, "3", "10230312", "132", "0");
        fails("252021", 19500, "2", "54042451", "4", "501", "3", "0");
        fails("1204020", 18013, "4", "023414342", "3", "032", "1");
    }

    private static void looksOfAMapCountTogether() {
        CHECK.says("Terms 4", "all LOOKS of these SEARCHES count together");
        fails("036314", 20000, "0", "1", "426", "2", "40252146", "3", "5");
        spends("0", "1", "526", "2", "3", "50242156", "4");
        spends("4", "6561", "2", "60241", "63024051", "3", "0");
    }

    private static void keepsTellsWhetherItKeeps() {
        CHECK.says("Promise 19", "Whether MAP m KEEPS: 1, 0; -2: SPENT; for 0 its FAILURE comes as ROW 0 of a SHEET");
        keeps(48, LEECH);
        fails("01", 7, "01", "10");
        spends("1", "3206013567", "6", "5", "357", "0", "4", "2");
        WordBench bench = benchWithMap("00");
        CHECK.due(0, "for a missing row", () -> bench.keeps(0, 1));
        CHECK.holds(bench, 1, 0, "0");
        CHECK.due(0, "for the map's own row", () -> bench.keeps(0, 0));
        CHECK.holds(bench, 0, 0, "0");
        CHECK.due(0, "the map stays", () -> bench.keeps(0, 1));
    }

    private static void looksOfEarlierCallsDoNotCount() {
        CHECK.says("Promise 9", "LOOKS of the latest call that SEARCHED");
        WordBench bench = benchWithMap("01", "10");
        bench.many(0, 2, 14);
        CHECK.due(0, "keeps behind what was spent", () -> bench.keeps(0, 1));
        CHECK.looks(bench, 7);
        CHECK.due(0, "keeps again", () -> bench.keeps(0, 1));
        CHECK.looks(bench, 7);
        bench.image(0, 0, 0, 1);
        bench.at(0, 0, 1);
        bench.map(0, 2, 0, 0);
        CHECK.looks(bench, 7);
        CHECK.due(2, "many behind it", () -> bench.many(0, 2, 1));
        CHECK.looks(bench, 3);
    }

    private static void keepsInNoSheet() {
        CHECK.says("Promise 19", "throws NoSuchElementException, IndexOutOfBoundsException");
        WordBench bench = benchWithMap("0");
        for (int sheet : new int[] {-1, 2, 16, LEAST, MOST}) {
            CHECK.placeRefused("keeps", () -> bench.keeps(0, sheet));
        }
        CHECK.looks(bench, 0);
    }

    private static void rowsGrowFromTheirFirstLetter() {
        CHECK.says("Terms 4", "A MAP GROWS from a LETTER a, if the WORD for a begins with a");
        WordBench bench = benchWithMap("01", "20", "22");
        CHECK.due(0, "from 0", () -> bench.at(0, 0, 0));
        CHECK.due(-1, "from 1", () -> bench.at(0, 1, 0));
        CHECK.due(2, "from 2", () -> bench.at(0, 2, MOST));
        for (int letter : new int[] {-1, 3, 7, 8, LEAST, MOST}) {
            CHECK.due(-1, "from " + letter, () -> bench.at(0, letter, 0));
        }
        tellMap(bench, "01", "11", "22");
        bench.map(0, 3, 0, 0);
        bench.map(0, 2, 0, 0);
        CHECK.due(-1, "from a letter that is gone", () -> bench.at(0, 2, 0));
    }

    private static void rowsGrowByTwoLettersOrMore() {
        CHECK.says("Terms 4", "and all its WORDS have two letters or more");
        String[][] maps = {{"0", "12", "20"}, {"01", "1", "20"}, {"01", "12", "2"}, {"0", "1", "2"}};
        for (String[] words : maps) {
            WordBench bench = benchWithMap(words);
            for (int letter : new int[] {0, 1, 2}) {
                CHECK.due(-1, "from " + letter, () -> bench.at(0, letter, 0));
            }
        }
        WordBench alone = benchWithMap("0");
        CHECK.due(-1, "from 0 alone", () -> alone.at(0, 0, 0));
        WordBench bench = benchWithMap("01", "12", "2");
        tellMap(bench, "01", "11");
        CHECK.due(1, "map", () -> bench.map(0, 2, 0, 0));
        CHECK.due(1, "the short word is gone", () -> bench.at(0, 0, 77));
    }

    private static void placesBelowZero() {
        CHECK.says("Promise 20", "-1: it doesn't, or the place is below 0");
        WordBench bench = benchWithMap("01", "10");
        for (int place : new int[] {-1, -2, LEAST}) {
            CHECK.due(-1, "place " + place, () -> bench.at(0, 0, place));
            CHECK.due(-1, "place " + place + " from 2", () -> bench.at(0, 2, place));
        }
        CHECK.due(0, "place 0", () -> bench.at(0, 0, 0));
        CHECK.due(1, "place 0 from 1", () -> bench.at(0, 1, 0));
    }

    private static void placesUpToTheGreatest() {
        CHECK.says("Promise 20", "The letter at a place (0 to 2147483647)");
        WordBench bench = benchWithMap("01", "10");
        int[] places = {0, 1, 2, 3, 4, 5, 1000, 65535, 1 << 30, (1 << 30) - 1, MOST - 1, MOST};
        for (int place : places) {
            int ones = Integer.bitCount(place) % 2;
            CHECK.due(ones, "letter at " + place, () -> bench.at(0, 0, place));
            CHECK.due(1 - ones, "letter at " + place + " from 1", () -> bench.at(0, 1, place));
        }
    }

    /** The word for x is x, x + 1, .. by eight, twenty letters: at a place its digits by twenty are added. */
    private static void placesOfTheWidestMap() {
        CHECK.says("Promise 20", "The letter at a place (0 to 2147483647), of the longest WORDS");
        String[] words = new String[8];
        for (int x = 0; x < 8; x++) {
            words[x] = "01234567012345670123456701234567".substring(x, x + 20);
        }
        WordBench bench = benchWithMap(words);
        int[] places = {0, 19, 20, 399, 400, 159999, 1279999999, 1280000000, 2000000000, MOST};
        for (int place : places) {
            int sum = 0;
            for (int rest = place; rest > 0; rest /= 20) {
                sum += rest % 20;
            }
            for (int a = 0; a < 8; a++) {
                int from = a;
                CHECK.due((a + sum) % 8, "letter at " + place, () -> bench.at(0, from, place));
            }
        }
    }

    private static void placesOfUnevenWords() {
        CHECK.says("Terms 4", "Its endless row begins with a, and is its own IMAGE.");
        String[] words = {"012", "20", "1121"};
        String row = "0";
        for (int i = 0; i < 8; i++) {
            StringBuilder image = new StringBuilder();
            row.chars().forEach(letter -> image.append(words[letter - '0']));
            row = image.toString();
        }
        for (int from = 0; from < 2000; from += 400) {
            lettersAre(benchWithMap(words), from, row.substring(from, from + 400));
        }
    }

    private static void lettersAre(WordBench bench, int from, String letters) {
        for (int i = 0; i < letters.length(); i++) {
            int place = from + i;
            CHECK.due(letters.charAt(i) - '0', "letter at " + place, () -> bench.at(0, 0, place));
        }
    }

    private static void maps() {
        mapsAreEight();
        mapsHaveWordsOfOneToTwenty();
        mapsHaveLettersBelowTheAlphabet();
        mapIsMadeOfRows();
        mapOfEightLetters();
        mapStaysAsItWas();
        mapsOfNoNumberOrAlphabet();
        mapsOfNoRows();
    }

    private static void images() {
        imageComesAsRowZero();
        imageOfTheEmptyWord();
        imageOfNoWord();
        imageOfMoreThanSixty();
        imageOfFarMoreThanSixty();
        mapsThatAreNotMade();
        imagesInNoRow();
    }

    private static void mapsThatKeep() {
        mapsAreLookedAtUpToThree();
        mapsAreLookedAtFurther();
        failureIsTheFirstOne();
        failuresOfTheMostLetters();
        looksOfAMapCountTogether();
        keepsTellsWhetherItKeeps();
        looksOfEarlierCallsDoNotCount();
        keepsInNoSheet();
    }

    private static void mapsThatGrow() {
        rowsGrowFromTheirFirstLetter();
        rowsGrowByTwoLettersOrMore();
        placesBelowZero();
        placesUpToTheGreatest();
        placesOfTheWidestMap();
        placesOfUnevenWords();
    }

    public static void main(String[] args) {
        maps();
        images();
        mapsThatKeep();
        mapsThatGrow();
        CHECK.end();
    }
}
