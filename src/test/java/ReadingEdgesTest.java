/** Promises 25 to 29, a test for each sentence that names a boundary: reading, cost, assign, ways, find. */
public final class ReadingEdgesTest {
    private static final long OAK = Check.word("oak");
    private static final Recipe NOTHING = land -> { };
    private static final Recipe TWO = land -> {
        land.feature(0, 10, 20);
        land.feature(1, 30, 40);
    };
    /** Two features with names, and two readings at their places. */
    private static final Recipe READ = land -> {
        TWO.make(land);
        land.name(0, 0, OAK, 0);
        land.name(1, 3, OAK + 1, 0);
        land.reading(OAK, 10, 20);
        land.reading(OAK, 30, 40);
    };
    private static final Recipe ALL_READINGS = land -> {
        READ.make(land);
        land.reading(1, 0, 0);
        land.reading(26, 99, 99);
    };

    public static void main(String[] args) {
        Edges.run(ReadingEdgesTest.class);
    }

    // ---- promise 25

    @Says(promise = 25, words = "- `word`: a word of at most 8 letters")
    private static void p25_word_has_1_to_8_letters() {
        Check.words(READ, 8, (land, word) -> land.reading(word, 0, 0));
    }

    @Says(promise = 25, words = "- `x`: 0 to 99")
    private static void p25_x_is_0_to_99() {
        Check.range(READ, Check.ARGUMENT, 0, 99, (land, x) -> land.reading(OAK, x, 0));
    }

    @Says(promise = 25, words = "- `y`: 0 to 99")
    private static void p25_y_is_0_to_99() {
        Check.range(READ, Check.ARGUMENT, 0, 99, (land, y) -> land.reading(OAK, 0, y));
    }

    @Says(promise = 25, words = "Returns its number, from 0.")
    private static void p25_numbers_are_0_to_3() {
        NameLand land = new NameLand();
        for (int i = 0; i < 4; i++) {
            Check.due("the number", land.reading(OAK, 0, 0), i);
        }
    }

    @Says(promise = 0, words = "Readings, at most 4, are words at a place.")
    private static void p25_the_4th_reading_counts() {
        NameLand land = Check.land(TWO);
        land.name(0, 0, OAK, 0);
        land.reading(1, 0, 0);
        land.reading(1, 0, 0);
        land.reading(1, 0, 0);
        land.reading(OAK, 10, 21);
        Check.due("the 4th", land.cost(3, 0), 1);
        Check.fails("a 5th", Check.STATE, () -> land.reading(OAK, 10, 21));
        Check.due("the 4th still", land.cost(3, 0), 1);
    }

    @Says(promise = 25, words = "Throws `IllegalStateException` if there are 4")
    private static void p25_at_most_4_readings() {
        Check.takes("the 3rd", READ, land -> land.reading(OAK, 0, 0));
        Check.refuses("a 5th", ALL_READINGS, Check.STATE, land -> land.reading(OAK, 0, 0));
        Check.refuses("a 5th, the same again", ALL_READINGS, Check.STATE, land -> land.reading(1, 0, 0));
        NameLand land = Check.land(ALL_READINGS);
        Check.fails("a reading 4", Check.INDEX, () -> land.cost(4, 0));
    }

    @Says(promise = 25, words = "Throws `IllegalArgumentException` if word is none, or x or y is out of range")
    private static void p25_the_argument_goes_ahead_of_a_5th() {
        Check.refuses("word", ALL_READINGS, Check.ARGUMENT, land -> land.reading(0, 0, 0));
        Check.refuses("x", ALL_READINGS, Check.ARGUMENT, land -> land.reading(1, 100, 0));
        Check.refuses("y", ALL_READINGS, Check.ARGUMENT, land -> land.reading(1, 0, -1));
        Check.refuses("all", ALL_READINGS, Check.ARGUMENT, land -> land.reading(-1, -1, -1));
    }

    @Says(promise = 25, words = "Throws `IllegalArgumentException` if word is none, or x or y is out of range")
    private static void p25_a_refused_reading_does_not_count() {
        NameLand land = new NameLand();
        for (int i = 0; i < 5; i++) {
            Check.fails("word", Check.ARGUMENT, () -> land.reading(27, 0, 0));
            Check.fails("x", Check.ARGUMENT, () -> land.reading(1, -1, 0));
            Check.fails("y", Check.ARGUMENT, () -> land.reading(1, 0, 100));
        }
        Check.due("ways without readings", land.ways(), 1);
        Check.due("the first", land.reading(1, 0, 0), 0);
    }

    // ---- promise 26

    @Says(promise = 26, words = "- `reading`: a reading")
    private static void p26_reading_exists() {
        Check.range(READ, Check.INDEX, 0, 1, (land, reading) -> land.cost(reading, 0));
        Check.range(ALL_READINGS, Check.INDEX, 0, 3, (land, reading) -> land.cost(reading, 0));
        Check.refuses("without readings", TWO, Check.INDEX, land -> land.cost(0, 0));
    }

    @Says(promise = 26, words = "- `feature`: a feature")
    private static void p26_feature_exists() {
        Check.range(READ, Check.INDEX, 0, 1, (land, feature) -> land.cost(0, feature));
        Check.refuses("without features", land -> land.reading(1, 0, 0), Check.INDEX, land -> land.cost(0, 0));
    }

    @Says(promise = 26, words = "Throws `IndexOutOfBoundsException` if there is no such reading or feature")
    private static void p26_neither_reading_nor_feature() {
        Check.refuses("both", READ, Check.INDEX, land -> land.cost(2, 2));
        Check.refuses("both -1", READ, Check.INDEX, land -> land.cost(-1, -1));
    }

    @Says(promise = 26, words = "Returns the cost; -1 if it does not fit.")
    private static void p26_it_fits_or_it_does_not() {
        Check.due("the least cost", cost(0, 0, "a", "a"), 0);
        Check.due("the greatest cost", cost(59, 1, "a", "a"), 60);
        Check.due("one more", cost(59, 2, "a", "a"), -1);
        Check.due("no name", cost(0, 0, "a"), -1);
    }

    /** What a reading costs of which the place is so far away, and of which the letters are told. */
    private static int cost(int x, int y, String read, String... names) {
        NameLand land = new NameLand();
        land.feature(0, 0, 0);
        for (String name : names) {
            land.name(0, 0, Check.word(name), 0);
        }
        land.reading(Check.word(read), x, y);
        return land.cost(0, 0);
    }

    @Says(promise = 0, words = "It fits, if that is at most 60, and the feature is there now, and such a word was told of it.")
    private static void p26_at_most_60() {
        Check.due("at the place", cost(0, 0, "oak", "oak"), 0);
        Check.due("60 away in x", cost(60, 0, "oak", "oak"), 60);
        Check.due("61 away in x", cost(61, 0, "oak", "oak"), -1);
        Check.due("60 away in y", cost(0, 60, "oak", "oak"), 60);
        Check.due("61 away in y", cost(0, 61, "oak", "oak"), -1);
        Check.due("60 away in both", cost(30, 30, "oak", "oak"), 60);
        Check.due("61 away in both", cost(31, 30, "oak", "oak"), -1);
        Check.due("50 away and a letter", cost(25, 25, "oak", "oar"), 60);
        Check.due("51 away and a letter", cost(25, 26, "oak", "oar"), -1);
        Check.due("6 letters", cost(0, 0, "aaaaaa", "bbbbbb"), 60);
        Check.due("6 letters and 1 away", cost(0, 1, "aaaaaa", "bbbbbb"), -1);
        Check.due("7 letters", cost(0, 0, "aaaaaaa", "bbbbbbb"), -1);
        Check.due("8 letters", cost(0, 0, "aaaaaaaa", "bbbbbbbb"), -1);
        Check.due("198 away", cost(99, 99, "oak", "oak"), -1);
    }

    @Says(promise = 0, words = "10 for each letter that has to be put in, taken out or changed, at the fewest")
    private static void p26_letters_at_the_fewest() {
        Check.due("put in ahead", cost(0, 0, "ab", "cab"), 10);
        Check.due("put in between", cost(0, 0, "ab", "acb"), 10);
        Check.due("put in behind", cost(0, 0, "ab", "abc"), 10);
        Check.due("taken out ahead", cost(0, 0, "cab", "ab"), 10);
        Check.due("taken out between", cost(0, 0, "acb", "ab"), 10);
        Check.due("taken out behind", cost(0, 0, "abc", "ab"), 10);
        Check.due("changed", cost(0, 0, "abc", "axc"), 10);
        Check.due("changed places are two", cost(0, 0, "ab", "ba"), 20);
        Check.due("one ahead and one behind", cost(0, 0, "abcdefgh", "bcdefghi"), 20);
        Check.due("1 letter to 7", cost(0, 0, "a", "bbbabbb"), 60);
        Check.due("1 letter to 8", cost(0, 0, "a", "bbbabbbb"), -1);
        Check.due("8 letters to 2", cost(0, 0, "abababab", "bb"), 60);
        Check.due("1 letter, another one", cost(0, 0, "a", "b"), 10);
    }

    @Says(promise = 0, words = "so that the word becomes one of the words that were ever told as names of the feature "
        + "(reversed ones, too); the least of these.")
    private static void p26_the_least_of_all_names() {
        Check.due("the first", cost(0, 0, "oak", "oak", "elm", "ash"), 0);
        Check.due("one between", cost(0, 0, "elm", "oak", "elm", "ash"), 0);
        Check.due("the last", cost(0, 0, "ash", "oak", "elm", "ash"), 0);
        Check.due("the nearest", cost(0, 0, "ask", "oak", "elm", "ash"), 10);
    }

    @Says(promise = 0, words = "so that the word becomes one of the words that were ever told as names of the feature "
        + "(reversed ones, too); the least of these.")
    private static void p26_words_that_were_ever_told() {
        NameLand land = new NameLand();
        land.feature(0, 0, 0);
        land.reading(OAK, 0, 0);
        Check.due("none", land.cost(0, 0), -1);
        land.petition(0, 0, OAK, 40);
        Check.due("a petition", land.cost(0, 0), -1);
        for (int i = 0; i < 5; i++) {
            land.vote(0, i, true);
        }
        land.decide(0);
        Check.due("a name of a later day", land.cost(0, 0), 0);
        land.appeal(0);
        Check.due("a reversed one", land.cost(0, 0), 0);
        land.pass(50);
        Check.due("a reversed one, later", land.cost(0, 0), 0);
    }

    @Says(promise = 0, words = "so that the word becomes one of the words that were ever told as names of the feature "
        + "(reversed ones, too); the least of these.")
    private static void p26_a_form_by_laws_was_not_told() {
        NameLand land = new NameLand();
        land.feature(0, 0, 0);
        land.name(0, 0, Check.word("aaa"), 0);
        land.law(0, 1, 1, 2, 0);
        land.pass(1);
        land.reading(Check.word("bbb"), 0, 0);
        land.reading(Check.word("aaa"), 0, 0);
        Check.due("the FORM now", land.form(0, 0, 1, 1), Check.word("bbb"));
        Check.due("a reading of the FORM", land.cost(0, 0), 30);
        Check.due("a reading of the name", land.cost(1, 0), 0);
    }

    @Says(promise = 0, words = "It fits, if that is at most 60, and the feature is there now, and such a word was told of it.")
    private static void p26_the_feature_is_there_now() {
        NameLand land = Check.land(READ);
        land.end(0, 1, 2);
        land.pass(1);
        Check.due("the day ahead of its end", land.cost(0, 0), 0);
        land.pass(1);
        Check.due("the day of its end", land.cost(0, 0), -1);
        Check.due("the other one", land.cost(1, 1), 10);
    }

    @Says(promise = 0, words = "What a reading costs at a feature is the difference of both numbers of its place "
        + "from those that the feature has now, together")
    private static void p26_the_place_now() {
        NameLand land = Check.land(READ);
        land.move(0, 12, 25, 1);
        Check.due("ahead", land.cost(0, 0), 0);
        land.pass(1);
        Check.due("from its day on", land.cost(0, 0), 7);
        land.move(0, 9, 18, 0);
        Check.due("an earlier day does not matter", land.cost(0, 0), 7);
        land.move(0, 9, 18, 1);
        Check.due("on the other side", land.cost(0, 0), 3);
    }

    // ---- promise 27

    @Says(promise = 27, words = "Returns what all readings cost together by the cheapest assignment; -1 if there is none.")
    private static void p27_without_readings_it_is_0() {
        Check.due("nothing at all", new NameLand().assign(), 0);
        Check.due("features", Check.land(TWO).assign(), 0);
    }

    @Says(promise = 27, words = "Returns what all readings cost together by the cheapest assignment; -1 if there is none.")
    private static void p27_none() {
        NameLand land = new NameLand();
        land.reading(1, 0, 0);
        Check.due("without features", land.assign(), -1);
        land.feature(0, 60, 0);
        Check.due("without names", land.assign(), -1);
        land.name(0, 0, 2, 0);
        Check.due("one that does not fit", land.assign(), -1);
        land.name(0, 0, 1, 0);
        Check.due("one that fits", land.assign(), 60);
        land.reading(1, 60, 0);
        Check.due("more readings than features", land.assign(), -1);
        land.feature(0, 99, 99);
        land.name(1, 0, 1, 0);
        Check.due("one that fits neither", land.assign(), -1);
        land.feature(0, 60, 1);
        land.name(2, 0, 1, 0);
        Check.due("two that fit", land.assign(), 61);
    }

    @Says(promise = 0, words = "An assignment has for each reading another feature, that it fits.")
    private static void p27_each_another_feature() {
        NameLand land = new NameLand();
        for (int i = 0; i < 4; i++) {
            land.feature(0, i * 10, 0);
            land.name(i, 0, 1, 0);
        }
        int[] want = {0, 10, 30, 60};
        for (int i = 0; i < 4; i++) {
            land.reading(1, 0, 0);
            Check.due("readings: " + (i + 1), land.assign(), want[i]);
        }
        land.end(2, -1, 0);
        Check.due("3 features for 4 readings", land.assign(), -1);
    }

    @Says(promise = 27, words = "Returns what all readings cost together by the cheapest assignment; -1 if there is none.")
    private static void p27_the_cheapest_together() {
        NameLand land = new NameLand();
        int[] places = {50, 52, 99};
        for (int i = 0; i < 3; i++) {
            land.feature(0, places[i], 0);
            land.name(i, 0, 1, 0);
        }
        land.reading(1, 51, 0);
        land.reading(1, 53, 0);
        Check.due("not the first that comes", land.assign(), 2);
        land.reading(1, 45, 0);
        Check.due("three", land.assign(), 5 + 1 + 46);
        Check.due("asked again", land.assign(), 52);
    }

    @Says(promise = 27, words = "Returns what all readings cost together by the cheapest assignment; -1 if there is none.")
    private static void p27_the_dearest() {
        NameLand land = new NameLand();
        for (int i = 0; i < 4; i++) {
            land.feature(0, 0, i);
            land.name(i, 0, 1, 0);
            land.reading(1, 60, i);
        }
        Check.due("4 readings that cost 60", land.assign(), 240);
        land.move(3, 0, 2, 0);
        Check.due("one that costs 61 with one", land.assign(), -1);
    }

    // ---- promise 28

    @Says(promise = 28, words = "Returns how many assignments there are; 1 without readings.")
    private static void p28_without_readings_it_is_1() {
        Check.due("nothing at all", new NameLand().ways(), 1);
        Check.due("features", Check.land(TWO).ways(), 1);
    }

    @Says(promise = 28, words = "Returns how many assignments there are; 1 without readings.")
    private static void p28_none() {
        NameLand land = new NameLand();
        land.reading(1, 0, 0);
        Check.due("without features", land.ways(), 0);
        land.feature(0, 61, 0);
        land.name(0, 0, 1, 0);
        Check.due("one that does not fit", land.ways(), 0);
        land.move(0, 60, 0, 0);
        Check.due("one that fits", land.ways(), 1);
        land.reading(1, 0, 0);
        Check.due("more readings than features", land.ways(), 0);
    }

    @Says(promise = 28, words = "Returns how many assignments there are; 1 without readings.")
    private static void p28_all_24_features_for_1_to_4_readings() {
        NameLand land = new NameLand();
        for (int i = 0; i < 24; i++) {
            land.feature(0, i, i);
            land.name(i, i % 4, 1, 0);
        }
        int[] want = {24, 24 * 23, 24 * 23 * 22, 24 * 23 * 22 * 21};
        for (int i = 0; i < 4; i++) {
            land.reading(1, 10, 10);
            Check.due("readings: " + (i + 1), land.ways(), want[i]);
        }
        land.end(7, -1, 0);
        Check.due("23 features", land.ways(), 23 * 22 * 21 * 20);
    }

    @Says(promise = 0, words = "An assignment has for each reading another feature, that it fits.")
    private static void p28_also_dearer_ones_count() {
        NameLand land = Check.land(READ);
        Check.due("both fit both", land.ways(), 2);
        land.move(1, 99, 99, 0);
        Check.due("neither fits that one now", land.ways(), 0);
        land.move(1, 70, 40, 0);
        Check.due("one fits both, one fits one", land.ways(), 1);
    }

    // ---- promise 29

    @Says(promise = 29, words = "- `word`: a word")
    private static void p29_word_has_1_to_12_letters() {
        Check.words(READ, 12, (land, word) -> land.find(word, 0, 0, 0));
        NameLand land = Check.land(TWO);
        land.name(0, 0, Check.word("zzzzzzzz"), 0);
        land.law(0, 1, 26, 26, 26);
        Check.due("8 letters", land.find(Check.word("zzzzzzzz"), 0, 0, 0), 0);
        Check.due("12 letters, not yet", land.find(Check.word("zzzzzzzzzzzz"), 0, 0, 0), -1);
        land.pass(1);
        Check.due("12 letters", land.find(Check.word("zzzzzzzzzzzz"), 0, 0, 0), 0);
        Check.due("8 letters, told once", land.find(Check.word("zzzzzzzz"), 0, 0, 0), 0);
        Check.due("9 letters", land.find(Check.word("zzzzzzzzz"), 0, 0, 0), -1);
    }

    @Says(promise = 29, words = "- `x`: 0 to 99")
    private static void p29_x_is_0_to_99() {
        Check.range(READ, Check.ARGUMENT, 0, 99, (land, x) -> land.find(OAK, x, 0, 0));
        NameLand land = Check.land(TWO);
        land.name(0, 0, 1, 0);
        land.name(1, 0, 1, 0);
        Check.due("near the one", land.find(1, 0, 30, 0), 0);
        Check.due("near the other", land.find(1, 99, 30, 0), 1);
    }

    @Says(promise = 29, words = "- `y`: 0 to 99")
    private static void p29_y_is_0_to_99() {
        Check.range(READ, Check.ARGUMENT, 0, 99, (land, y) -> land.find(OAK, 0, y, 0));
        NameLand land = Check.land(TWO);
        land.name(0, 0, 1, 0);
        land.name(1, 0, 1, 0);
        Check.due("near the one", land.find(1, 20, 0, 0), 0);
        Check.due("near the other", land.find(1, 20, 99, 0), 1);
    }

    @Says(promise = 29, words = "Throws `IndexOutOfBoundsException` if rank is below 0")
    private static void p29_rank_is_not_below_0() {
        Check.refuses("rank -1", READ, Check.INDEX, land -> land.find(OAK, 0, 0, -1));
        Check.refuses("the lowest number", READ, Check.INDEX, land -> land.find(OAK, 0, 0, Integer.MIN_VALUE));
        Check.refuses("without features", NOTHING, Check.INDEX, land -> land.find(OAK, 0, 0, -1));
        Check.takes("rank 0", NOTHING, land -> land.find(OAK, 0, 0, 0));
        Check.takes("the highest number", READ, land -> land.find(OAK, 0, 0, Integer.MAX_VALUE));
    }

    @Says(promise = 29, words = "- `rank`: 0 for the first one")
    private static void p29_rank_0_is_the_first_one() {
        NameLand land = Check.land(TWO);
        land.name(0, 0, OAK, 0);
        land.name(1, 0, OAK, 0);
        Check.due("rank 0", land.find(OAK, 30, 40, 0), 1);
        Check.due("rank 1", land.find(OAK, 30, 40, 1), 0);
        Check.due("rank 2", land.find(OAK, 30, 40, 2), -1);
    }

    @Says(promise = 29, words = "Throws `IndexOutOfBoundsException` if rank is below 0")
    private static void p29_the_rank_goes_ahead_of_the_arguments() {
        Check.refuses("word", READ, Check.INDEX, land -> land.find(0, 0, 0, -1));
        Check.refuses("x", READ, Check.INDEX, land -> land.find(OAK, 100, 0, -1));
        Check.refuses("y", READ, Check.INDEX, land -> land.find(OAK, 0, -1, -1));
        Check.refuses("all", READ, Check.INDEX, land -> land.find(-1, -1, 100, -2));
    }

    @Says(promise = 29, words = "Throws `IllegalArgumentException` if word is none, or x or y is out of range")
    private static void p29_each_argument_alone() {
        int[] ranks = {0, 1, 24, Integer.MAX_VALUE};
        for (int rank : ranks) {
            Check.refuses("word", READ, Check.ARGUMENT, land -> land.find(0, 0, 0, rank));
            Check.refuses("x", READ, Check.ARGUMENT, land -> land.find(OAK, -1, 0, rank));
            Check.refuses("y", READ, Check.ARGUMENT, land -> land.find(OAK, 0, 100, rank));
        }
        Check.refuses("without features", NOTHING, Check.ARGUMENT, land -> land.find(0, 0, 0, 0));
    }

    @Says(promise = 29, words = "Returns the feature; -1 if there are not so many.")
    private static void p29_as_many_as_there_are() {
        Check.due("without features", new NameLand().find(OAK, 0, 0, 0), -1);
        NameLand land = new NameLand();
        for (int i = 0; i < 24; i++) {
            land.feature(0, 5, 5);
        }
        Check.due("without names", land.find(OAK, 5, 5, 0), -1);
        for (int i = 0; i < 24; i++) {
            land.name(i, i % 4, OAK, 0);
            Check.due("the last one", land.find(OAK, 5, 5, i), i);
            Check.due("not so many", land.find(OAK, 5, 5, i + 1), -1);
        }
        Check.due("the first one", land.find(OAK, 5, 5, 0), 0);
        Check.due("rank 24", land.find(OAK, 5, 5, 24), -1);
        Check.due("the highest rank", land.find(OAK, 5, 5, Integer.MAX_VALUE), -1);
    }

    @Says(promise = 29, words = "first those of which it is a FORM now, then those nearer to a place by the sum of "
        + "differences, then lower ones.")
    private static void p29_forms_now_go_first() {
        NameLand land = new NameLand();
        land.feature(0, 0, 0);
        land.feature(0, 99, 99);
        land.name(0, 0, OAK, 1);
        land.name(1, 0, OAK, 0);
        Check.due("the farthest with the FORM", land.find(OAK, 0, 0, 0), 1);
        Check.due("the nearest without it", land.find(OAK, 0, 0, 1), 0);
        land.pass(1);
        Check.due("both with it, the nearest", land.find(OAK, 0, 0, 0), 0);
        Check.due("both with it, the farthest", land.find(OAK, 0, 0, 1), 1);
    }

    @Says(promise = 29, words = "first those of which it is a FORM now, then those nearer to a place by the sum of "
        + "differences, then lower ones.")
    private static void p29_then_the_nearer_ones_then_the_lower_ones() {
        int[] days = {0, 9};
        for (int day : days) {
            NameLand land = new NameLand();
            int[][] places = {{50, 45}, {54, 50}, {47, 48}, {50, 50}, {46, 50}, {52, 52}};
            for (int i = 0; i < places.length; i++) {
                land.feature(0, places[i][0], places[i][1]);
                land.name(i, 0, OAK, day);
            }
            int[] want = {3, 1, 4, 5, 0, 2, -1};
            for (int rank = 0; rank < want.length; rank++) {
                Check.due("rank " + rank + " with names of day " + day, land.find(OAK, 50, 50, rank), want[rank]);
            }
        }
    }

    @Says(promise = 29, words = "Searches for the features of which a word was ever told as a name (reversed ones, too), "
        + "or is a FORM now")
    private static void p29_a_form_now_in_any_tongue() {
        for (int tongue = 0; tongue < 4; tongue++) {
            NameLand land = Check.land(TWO);
            land.name(1, tongue, 1, 0);
            land.law(tongue, 2, 1, 2, 0);
            land.law(tongue, 3, 2, 3, 0);
            land.pass(1);
            Check.due("ahead of its day", land.find(2, 0, 0, 0), -1);
            land.pass(1);
            Check.due("on its day", land.find(2, 0, 0, 0), 1);
            land.pass(1);
            Check.due("a FORM that was", land.find(2, 0, 0, 0), -1);
            Check.due("the name that was told", land.find(1, 0, 0, 0), 1);
        }
    }

    @Says(promise = 29, words = "Searches for the features of which a word was ever told as a name (reversed ones, too), "
        + "or is a FORM now")
    private static void p29_words_that_were_ever_told() {
        NameLand land = Check.land(TWO);
        land.petition(0, 0, OAK, 30);
        Check.due("a petition", land.find(OAK, 0, 0, 0), -1);
        for (int i = 0; i < 5; i++) {
            land.vote(0, i, true);
        }
        land.decide(0);
        Check.due("of a later day", land.find(OAK, 0, 0, 0), 0);
        land.appeal(0);
        Check.due("reversed", land.find(OAK, 0, 0, 0), 0);
        land.name(1, 0, OAK, 0);
        Check.due("a FORM now ahead of it", land.find(OAK, 10, 20, 0), 1);
        land.name(1, 0, 1, 0);
        Check.due("not any more", land.find(OAK, 10, 20, 0), 0);
        Check.due("but once told", land.find(OAK, 10, 20, 1), 1);
    }

    @Says(promise = 29, words = "Searches for the features of which a word was ever told as a name (reversed ones, too), "
        + "or is a FORM now")
    private static void p29_a_feature_that_is_not_there_is_found() {
        NameLand land = Check.land(TWO);
        land.name(0, 0, OAK, 0);
        land.end(0, 1, 0);
        Check.due("ended", land.find(OAK, 0, 0, 0), 0);
    }

    @Says(promise = 29, words = "first those of which it is a FORM now, then those nearer to a place by the sum of "
        + "differences, then lower ones.")
    private static void p29_each_feature_once() {
        NameLand land = Check.land(TWO);
        for (int tongue = 0; tongue < 4; tongue++) {
            land.name(0, tongue, OAK, 0);
            land.name(0, tongue, OAK, 5);
        }
        Check.due("the first", land.find(OAK, 0, 0, 0), 0);
        Check.due("not again", land.find(OAK, 0, 0, 1), -1);
    }
}
