/** Promises 21 to 24, a test for each sentence that names a boundary: table, write, back, loss. */
public final class TableEdgesTest {
    private static final Recipe NOTHING = land -> { };
    /** Table 1 tells b for a, a for b, c for c and d; table 2 tells the letter 26 for all. */
    private static final Recipe TOLD = land -> {
        land.feature(0, 1, 1);
        land.table(1, 1, 2);
        land.table(1, 2, 1);
        land.table(1, 4, 3);
        for (int letter = 1; letter <= 26; letter++) {
            land.table(2, letter, 26);
        }
    };

    public static void main(String[] args) {
        Edges.run(TableEdgesTest.class);
    }

    // ---- promise 21

    @Says(promise = 21, words = "- `table`: 0 to 3")
    private static void p21_table_is_0_to_3() {
        Check.range(TOLD, Check.INDEX, 0, 3, (land, table) -> land.table(table, 1, 2));
    }

    @Says(promise = 21, words = "- `letter`: 1 to 26")
    private static void p21_letter_is_1_to_26() {
        Check.range(TOLD, Check.ARGUMENT, 1, 26, (land, letter) -> land.table(0, letter, 2));
        NameLand land = new NameLand();
        Check.due("the lowest", land.table(0, 1, 13), 1);
        Check.due("the highest", land.table(0, 26, 14), 26);
        Check.due("both", land.write(Check.word("az"), 0), Check.word("mn"));
    }

    @Says(promise = 21, words = "- `to`: 1 to 26")
    private static void p21_to_is_1_to_26() {
        Check.range(TOLD, Check.ARGUMENT, 1, 26, (land, to) -> land.table(0, 1, to));
        NameLand land = new NameLand();
        land.table(0, 13, 1);
        land.table(0, 14, 26);
        Check.due("both", land.write(Check.word("mn"), 0), Check.word("az"));
    }

    @Says(promise = 21, words = "Throws `IndexOutOfBoundsException` if there is no such table")
    private static void p21_no_table_goes_ahead_of_the_letters() {
        Check.refuses("letter", TOLD, Check.INDEX, land -> land.table(4, 0, 1));
        Check.refuses("to", TOLD, Check.INDEX, land -> land.table(-1, 1, 27));
        Check.refuses("both", TOLD, Check.INDEX, land -> land.table(4, 27, 0));
    }

    @Says(promise = 21, words = "Throws `IllegalArgumentException` if letter or to is out of range")
    private static void p21_both_letters_out_of_range() {
        Check.refuses("both 0", TOLD, Check.ARGUMENT, land -> land.table(1, 0, 0));
        Check.refuses("both 27", TOLD, Check.ARGUMENT, land -> land.table(1, 27, 27));
    }

    @Says(promise = 21, words = "Returns what was told for it.")
    private static void p21_what_was_told_for_it() {
        NameLand land = new NameLand();
        Check.due("itself", land.table(3, 7, 8), 7);
        Check.due("what was told", land.table(3, 7, 7), 8);
        Check.due("itself again", land.table(3, 7, 7), 7);
        Check.due("another letter", land.table(3, 8, 7), 8);
    }

    @Says(promise = 0, words = "A table, 0 to 3, tells for each letter another one, at first itself.")
    private static void p21_at_first_itself() {
        NameLand land = new NameLand();
        for (int i = 0; i < 104; i++) {
            Check.due("table " + i / 26 + ", letter " + (i % 26 + 1), land.table(i / 26, i % 26 + 1, 1), i % 26 + 1);
        }
        for (int i = 0; i < 104; i++) {
            Check.due("then 1", land.table(i / 26, i % 26 + 1, 2), 1);
        }
    }

    // ---- promise 22

    @Says(promise = 22, words = "- `word`: a word")
    private static void p22_word_has_1_to_12_letters() {
        Check.words(TOLD, 12, (land, word) -> land.write(word, 0));
        NameLand land = Check.land(TOLD);
        Check.due("the lowest", land.write(1, 0), 1);
        Check.due("the highest", land.write(150094635296999120L, 0), 150094635296999120L);
        Check.due("12 letters", land.write(Check.word("abcdabcdabcd"), 1), Check.word("baccbaccbacc"));
        Check.due("9 letters", land.write(Check.word("aaaaaaaaa"), 2), Check.word("zzzzzzzzz"));
    }

    @Says(promise = 22, words = "- `table`: 0 to 3")
    private static void p22_table_is_0_to_3() {
        Check.range(TOLD, Check.INDEX, 0, 3, (land, table) -> land.write(1, table));
        NameLand land = Check.land(TOLD);
        long[] want = {1, 2, 26, 1};
        for (int table = 0; table < 4; table++) {
            Check.due("table " + table, land.write(1, table), want[table]);
        }
    }

    @Says(promise = 22, words = "Throws `IndexOutOfBoundsException` if there is no such table")
    private static void p22_no_table_goes_ahead_of_the_word() {
        Check.refuses("table 4", TOLD, Check.INDEX, land -> land.write(0, 4));
        Check.refuses("table -1", TOLD, Check.INDEX, land -> land.write(-1, -1));
    }

    @Says(promise = 22, words = "Throws `IllegalArgumentException` if word is none")
    private static void p22_a_word_that_is_none_by_each_table() {
        for (int i = 0; i < 4; i++) {
            int table = i;
            Check.refuses("0", TOLD, Check.ARGUMENT, land -> land.write(0, table));
            Check.refuses("13 letters", TOLD, Check.ARGUMENT, land -> land.write(150094635296999121L, table));
        }
    }

    @Says(promise = 22, words = "Returns the word then.")
    private static void p22_a_word_keeps_its_length() {
        NameLand land = Check.land(TOLD);
        String letters = "abababababab";
        for (int length = 1; length <= 12; length++) {
            String want = "zzzzzzzzzzzz".substring(0, length);
            Check.due("letters: " + length, land.write(Check.word(letters.substring(0, length)), 2), Check.word(want));
        }
    }

    @Says(promise = 0, words = "To write a word by it is to change all letters.")
    private static void p22_all_letters_are_changed_once() {
        NameLand land = new NameLand();
        for (int letter = 1; letter <= 26; letter++) {
            land.table(0, letter, letter % 26 + 1);
        }
        Check.due("each to the next one", land.write(Check.word("abcxyz"), 0), Check.word("bcdyza"));
        Check.due("one letter", land.write(26, 0), 1);
        Check.due("another table", land.write(26, 1), 26);
    }

    // ---- promise 23

    @Says(promise = 23, words = "- `word`: a word")
    private static void p23_word_has_1_to_12_letters() {
        Check.words(TOLD, 12, (land, word) -> land.back(word, 0));
        NameLand land = Check.land(TOLD);
        Check.due("the lowest", land.back(1, 0), 1);
        Check.due("the highest", land.back(150094635296999120L, 0), 150094635296999120L);
        Check.due("12 letters", land.back(Check.word("abefabefabef"), 1), Check.word("baefbaefbaef"));
    }

    @Says(promise = 23, words = "- `table`: 0 to 3")
    private static void p23_table_is_0_to_3() {
        Check.range(TOLD, Check.INDEX, 0, 3, (land, table) -> land.back(1, table));
        NameLand land = Check.land(TOLD);
        long[] want = {1, 2, -1, 1};
        for (int table = 0; table < 4; table++) {
            Check.due("table " + table, land.back(1, table), want[table]);
        }
    }

    @Says(promise = 23, words = "Throws `IndexOutOfBoundsException` if there is no such table")
    private static void p23_no_table_goes_ahead_of_the_word() {
        Check.refuses("table 4", TOLD, Check.INDEX, land -> land.back(0, 4));
        Check.refuses("table -1", TOLD, Check.INDEX, land -> land.back(27, -1));
    }

    @Says(promise = 23, words = "Throws `IllegalArgumentException` if word is none")
    private static void p23_a_word_that_is_none_by_each_table() {
        for (int i = 0; i < 4; i++) {
            int table = i;
            Check.refuses("0", TOLD, Check.ARGUMENT, land -> land.back(0, table));
            Check.refuses("13 letters", TOLD, Check.ARGUMENT, land -> land.back(150094635296999121L, table));
            Check.refuses("none that also cannot be read", TOLD, Check.ARGUMENT, land -> land.back(4 * 27, table));
        }
    }

    @Says(promise = 0, words = "It can be read back, if each letter of it is told for just one letter.")
    private static void p23_each_letter_is_told_for_just_one() {
        NameLand land = Check.land(TOLD);
        Check.due("for one", land.back(Check.word("ab"), 1), Check.word("ba"));
        Check.due("for two", land.back(Check.word("c"), 1), -1);
        Check.due("for none", land.back(Check.word("d"), 1), -1);
        Check.due("the first for two", land.back(Check.word("cab"), 1), -1);
        Check.due("the last for two", land.back(Check.word("abc"), 1), -1);
        Check.due("the first for none", land.back(Check.word("dab"), 1), -1);
        Check.due("the last of 12 for none", land.back(Check.word("aaaaaaaaaaad"), 1), -1);
        Check.due("for all 26", land.back(26, 2), -1);
        land.table(1, 4, 4);
        Check.due("for one again", land.back(Check.word("cd"), 1), Check.word("cd"));
    }

    @Says(promise = 23, words = "Returns the word; -1 if it cannot be read back.")
    private static void p23_what_was_written_is_read_back() {
        NameLand land = new NameLand();
        for (int letter = 1; letter <= 26; letter++) {
            land.table(0, letter, 27 - letter);
        }
        for (int letter = 1; letter <= 26; letter++) {
            Check.due("the letter " + letter, land.back(land.write(letter, 0), 0), letter);
        }
        long word = Check.word("abcdefghijkl");
        Check.due("12 letters", land.back(land.write(word, 0), 0), word);
    }

    // ---- promise 24

    @Says(promise = 24, words = "- `table`: 0 to 3")
    private static void p24_table_is_0_to_3() {
        Check.range(TOLD, Check.INDEX, 0, 3, NameLand::loss);
        NameLand land = Check.land(TOLD);
        int[] want = {0, 1, 25, 0};
        for (int table = 0; table < 4; table++) {
            Check.due("table " + table, land.loss(table), want[table]);
        }
    }

    @Says(promise = 24, words = "Throws `IndexOutOfBoundsException` if there is no such table")
    private static void p24_no_such_table_of_a_new_land() {
        Check.refuses("table 4", NOTHING, Check.INDEX, land -> land.loss(4));
        Check.refuses("table -1", NOTHING, Check.INDEX, land -> land.loss(-1));
    }

    @Says(promise = 24, words = "Returns what a table loses: 26 less how many different letters it tells.")
    private static void p24_from_nothing_to_25() {
        NameLand land = new NameLand();
        Check.due("nothing at first", land.loss(0), 0);
        for (int letter = 2; letter <= 26; letter++) {
            land.table(0, letter, 1);
            Check.due("letters up to " + letter, land.loss(0), letter - 1);
        }
        land.table(0, 1, 26);
        Check.due("two letters are told", land.loss(0), 24);
        land.table(0, 2, 2);
        land.table(0, 3, 3);
        Check.due("four letters are told", land.loss(0), 22);
    }

    @Says(promise = 24, words = "Returns what a table loses: 26 less how many different letters it tells.")
    private static void p24_changed_places_lose_nothing() {
        NameLand land = new NameLand();
        land.table(0, 1, 26);
        Check.due("one", land.loss(0), 1);
        land.table(0, 26, 1);
        Check.due("changed places", land.loss(0), 0);
    }
}
