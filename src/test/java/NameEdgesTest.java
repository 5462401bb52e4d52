/** Promises 7 to 10, a test for each sentence that names a boundary: name, law, except, form. */
public final class NameEdgesTest {
    private static final int STREET = NameLand.STREET;
    private static final long OAK = Check.word("oak");
    private static final long ELM = Check.word("elm");

    private static final Recipe TWO = land -> {
        land.feature(0, 10, 20);
        land.feature(1, 30, 40);
    };
    private static final Recipe NAMED = land -> {
        TWO.make(land);
        land.name(0, 0, Check.word("abc"), 10);
        land.law(0, 20, 1, 2, 0);
    };
    private static final Recipe ALL_NAMES = land -> {
        TWO.make(land);
        for (int i = 0; i < 100; i++) {
            land.name(i % 2, i % 4, 1 + i % 26, i);
        }
    };
    private static final Recipe ALL_LAWS = land -> {
        NAMED.make(land);
        for (int i = 1; i < 12; i++) {
            land.law(i % 4, 20 + i, i, i + 1, 0);
        }
    };
    private static final Recipe ALL_EXCEPTIONS = land -> {
        NAMED.make(land);
        for (int i = 0; i < 40; i++) {
            land.except(i % 2, i % 4, 50 + i);
        }
    };
    /** A town and two STREETS; both are parts of it from day 10 on, and one of them has a name from day 20 on. */
    private static final Recipe STREETS = land -> {
        land.feature(0, 50, 50);
        land.feature(STREET, 51, 50);
        land.feature(STREET, 52, 50);
        land.part(1, 0, 10);
        land.part(2, 0, 10);
        land.name(1, 0, OAK, 20);
    };

    public static void main(String[] args) {
        Edges.run(NameEdgesTest.class);
    }

    // ---- promise 7

    @Says(promise = 7, words = "- `feature`: a feature")
    private static void p07_feature_exists() {
        Check.range(TWO, Check.INDEX, 0, 1, (land, feature) -> land.name(feature, 0, 1, 0));
    }

    @Says(promise = 7, words = "- `tongue`: 0 to 3")
    private static void p07_tongue_is_0_to_3() {
        Check.range(TWO, Check.INDEX, 0, 3, (land, tongue) -> land.name(0, tongue, 1, 0));
        NameLand land = Check.land(TWO);
        for (int tongue = 0; tongue < 4; tongue++) {
            land.name(0, tongue, tongue + 1, 0);
        }
        for (int tongue = 0; tongue < 4; tongue++) {
            Check.due("tongue " + tongue, land.form(0, tongue, 0, 0), tongue + 1);
        }
    }

    @Says(promise = 7, words = "- `word`: a word of at most 8 letters")
    private static void p07_word_has_1_to_8_letters() {
        Check.words(TWO, 8, (land, word) -> land.name(0, 0, word, 0));
        NameLand land = Check.land(TWO);
        land.name(0, 0, 1, 0);
        land.name(0, 1, Check.word("zzzzzzzz"), 0);
        Check.due("the lowest", land.form(0, 0, 0, 0), 1);
        Check.due("the highest", land.form(0, 1, 0, 0), 282429536480L);
    }

    @Says(promise = 7, words = "- `day`: 0 to 9999")
    private static void p07_day_is_0_to_9999() {
        Check.range(TWO, Check.ARGUMENT, 0, 9999, (land, day) -> land.name(0, 0, 1, day));
        NameLand land = Check.land(TWO);
        land.name(0, 0, 1, 0);
        land.name(0, 0, 2, 9999);
        Check.due("on the first day", land.form(0, 0, 0, 0), 1);
        Check.due("ahead of the last day", land.form(0, 0, 9998, 0), 1);
        Check.due("on the last day", land.form(0, 0, 9999, 0), 2);
    }

    @Says(promise = 7, words = "Returns how many names were told of all features.")
    private static void p07_names_of_all_features_count() {
        NameLand land = Check.land(TWO);
        Check.due("the first", land.name(0, 0, 1, 0), 1);
        Check.due("of another feature", land.name(1, 0, 1, 0), 2);
        Check.due("in another tongue", land.name(0, 3, 1, 0), 3);
        Check.due("the same again", land.name(0, 0, 1, 0), 4);
    }

    @Says(promise = 7, words = "Throws `IllegalStateException` if 100 were told, or it is refused")
    private static void p07_100_names() {
        NameLand land = Check.land(TWO);
        for (int i = 1; i <= 99; i++) {
            Check.due("how many", land.name(i % 2, i % 4, 1, i), i);
        }
        Check.due("the 100th", land.name(0, 0, OAK, 100), 100);
        Check.due("the 100th holds", land.form(0, 0, 100, 0), OAK);
        Check.fails("a 101st", Check.STATE, () -> land.name(0, 0, ELM, 101));
        Check.fails("a 101st of another feature", Check.STATE, () -> land.name(1, 3, ELM, 101));
        Check.due("a new feature", land.feature(0, 0, 0), 2);
        Check.fails("a 101st of a new feature", Check.STATE, () -> land.name(2, 0, ELM, 101));
        Check.due("the 100th still holds", land.form(0, 0, 101, 0), OAK);
    }

    @Says(promise = 7, words = "Throws `IllegalStateException` if 100 were told, or it is refused")
    private static void p07_a_101st_name_changes_nothing() {
        Check.refuses("a 101st", ALL_NAMES, Check.STATE, land -> land.name(0, 0, OAK, 0));
    }

    @Says(promise = 7, words = "Throws `IllegalArgumentException` if word is none, or day is out of range")
    private static void p07_the_argument_goes_ahead_of_a_101st_name() {
        Check.refuses("word", ALL_NAMES, Check.ARGUMENT, land -> land.name(0, 0, 0, 0));
        Check.refuses("day", ALL_NAMES, Check.ARGUMENT, land -> land.name(0, 0, 1, -1));
        Check.refuses("tongue", ALL_NAMES, Check.INDEX, land -> land.name(0, 4, 0, -1));
        Check.refuses("feature", ALL_NAMES, Check.INDEX, land -> land.name(2, 0, 0, -1));
    }

    @Says(promise = 7, words = "Throws `IndexOutOfBoundsException` if there is no such feature or tongue")
    private static void p07_no_tongue_goes_ahead_of_the_arguments() {
        Check.refuses("tongue, word", TWO, Check.INDEX, land -> land.name(0, 4, 0, 0));
        Check.refuses("tongue, day", TWO, Check.INDEX, land -> land.name(0, -1, 1, 10000));
        Check.refuses("feature, word", TWO, Check.INDEX, land -> land.name(2, 0, 0, 0));
        Check.refuses("feature, day", TWO, Check.INDEX, land -> land.name(-1, 0, 1, -1));
    }

    @Says(promise = 7, words = "Throws `IllegalStateException` if 100 were told, or it is refused")
    private static void p07_a_name_that_is_not_told_does_not_count() {
        NameLand land = Check.land(STREETS);
        for (int i = 0; i < 60; i++) {
            Check.fails("refused", Check.STATE, () -> land.name(2, 0, OAK, 20));
            Check.fails("no word", Check.ARGUMENT, () -> land.name(2, 0, 0, 20));
            Check.fails("no tongue", Check.INDEX, () -> land.name(2, 4, OAK, 20));
        }
        Check.due("the second name", land.name(2, 0, ELM, 20), 2);
        for (int i = 3; i <= 100; i++) {
            Check.due("how many", land.name(0, 0, 1, 0), i);
        }
    }

    @Says(promise = 0, words = "and holds from a day on, in place of the one ahead (as told for places)")
    private static void p07_a_name_holds_from_its_day_on() {
        NameLand land = Check.land(TWO);
        land.name(0, 0, 1, 10);
        land.name(0, 0, 2, 20);
        land.name(0, 0, 3, 15);
        Check.due("the day ahead", land.form(0, 0, 9, 0), 0);
        Check.due("the day", land.form(0, 0, 10, 0), 1);
        Check.due("ahead of the next", land.form(0, 0, 14, 0), 1);
        Check.due("the next", land.form(0, 0, 15, 0), 3);
        Check.due("ahead of the last", land.form(0, 0, 19, 0), 3);
        Check.due("the last, though told ahead", land.form(0, 0, 20, 0), 2);
        land.name(0, 0, 4, 20);
        Check.due("of one day the last told", land.form(0, 0, 20, 0), 4);
        Check.due("of another feature none", land.form(1, 0, 20, 0), 0);
        Check.due("in another tongue none", land.form(0, 1, 20, 0), 0);
    }

    @Says(promise = 0, words = "all that is told is known from the present day on")
    private static void p07_a_name_is_known_from_the_present_day_on() {
        NameLand land = Check.land(TWO);
        land.pass(5);
        land.name(0, 0, 1, 2);
        land.pass(1);
        land.name(0, 0, 2, 2);
        Check.due("known the day ahead", land.form(0, 0, 2, 4), 0);
        Check.due("known on the day", land.form(0, 0, 2, 5), 1);
        Check.due("the other one, known on the day", land.form(0, 0, 2, 6), 2);
        Check.due("the other one, known on the last day", land.form(0, 0, 9999, 9999), 2);
    }

    @Says(promise = 0, words = "Nothing that was told is deleted.")
    private static void p07_no_name_is_deleted() {
        NameLand land = new NameLand();
        land.feature(0, 0, 0);
        for (int i = 0; i < 100; i++) {
            land.name(0, 0, 1 + i % 26, 0);
            land.pass(1);
        }
        for (int i = 0; i < 100; i++) {
            Check.due("known on day " + i, land.form(0, 0, 0, i), 1 + i % 26);
        }
    }

    @Says(promise = 0, words = "A name of a STREET that is a part of something on the day from which it is to hold is refused")
    private static void p07_only_a_name_of_a_street_is_refused() {
        for (int kind = 0; kind <= 5; kind++) {
            int other = kind;
            Recipe recipe = land -> {
                STREETS.make(land);
                land.feature(other, 1, 1);
                land.part(3, 0, 0);
            };
            if (kind == STREET) {
                Check.refuses("kind " + kind, recipe, Check.STATE, land -> land.name(3, 0, OAK, 20));
            } else {
                Check.takes("kind " + kind, recipe, land -> land.name(3, 0, OAK, 20));
            }
        }
    }

    @Says(promise = 0, words = "A name of a STREET that is a part of something on the day from which it is to hold is refused")
    private static void p07_only_a_name_of_a_part_is_refused() {
        Recipe recipe = land -> {
            STREETS.make(land);
            land.feature(STREET, 1, 1);
            land.part(3, 0, 30);
            land.part(3, -1, 40);
        };
        Check.takes("a part of nothing yet", recipe, land -> land.name(3, 0, OAK, 29));
        Check.refuses("from that day on", recipe, Check.STATE, land -> land.name(3, 0, OAK, 30));
        Check.refuses("until ahead of the day", recipe, Check.STATE, land -> land.name(3, 0, OAK, 39));
        Check.takes("a part of nothing any more", recipe, land -> land.name(3, 0, OAK, 40));
    }

    @Says(promise = 0, words = "A name of a STREET that is a part of something on the day from which it is to hold is refused")
    private static void p07_parts_of_nothing_are_not_alike() {
        Recipe recipe = land -> {
            land.feature(STREET, 1, 1);
            land.feature(STREET, 2, 2);
            land.part(1, -1, 0);
            land.name(0, 0, OAK, 0);
        };
        Check.takes("both parts of nothing", recipe, land -> land.name(1, 0, OAK, 0));
    }

    @Says(promise = 0, words = "if another STREET that is there, and is a part of the same then")
    private static void p07_only_another_street_refuses() {
        Check.takes("its own word again", STREETS, land -> land.name(1, 0, OAK, 20));
        for (int kind = 0; kind <= 5; kind++) {
            int other = kind;
            Recipe recipe = land -> {
                land.feature(0, 50, 50);
                land.feature(STREET, 51, 50);
                land.feature(other, 52, 50);
                land.part(1, 0, 0);
                land.part(2, 0, 0);
                land.name(2, 0, OAK, 0);
            };
            if (kind == STREET) {
                Check.refuses("kind " + kind, recipe, Check.STATE, land -> land.name(1, 0, OAK, 0));
            } else {
                Check.takes("kind " + kind, recipe, land -> land.name(1, 0, OAK, 0));
            }
        }
    }

    @Says(promise = 0, words = "if another STREET that is there, and is a part of the same then")
    private static void p07_any_other_street_refuses() {
        Recipe recipe = land -> {
            land.feature(0, 50, 50);
            for (int i = 1; i < 24; i++) {
                land.feature(STREET, i, i);
                land.part(i, 0, 0);
            }
            land.name(1, 0, OAK, 0);
            land.name(23, 0, ELM, 0);
        };
        Check.refuses("the first of 23", recipe, Check.STATE, land -> land.name(12, 0, OAK, 0));
        Check.refuses("the last of 23", recipe, Check.STATE, land -> land.name(12, 0, ELM, 0));
        Check.takes("another word", recipe, land -> land.name(12, 0, Check.word("ash"), 0));
    }

    @Says(promise = 0, words = "if another STREET that is there, and is a part of the same then")
    private static void p07_the_other_street_is_there_from_its_day_on() {
        Recipe recipe = land -> {
            land.feature(0, 50, 50);
            land.feature(STREET, 51, 50);
            land.pass(30);
            land.feature(STREET, 52, 50);
            land.part(1, 0, 0);
            land.part(2, 0, 0);
            land.name(2, 0, OAK, 0);
        };
        Check.takes("the day ahead", recipe, land -> land.name(1, 0, OAK, 29));
        Check.refuses("the day", recipe, Check.STATE, land -> land.name(1, 0, OAK, 30));
    }

    @Says(promise = 0, words = "if another STREET that is there, and is a part of the same then")
    private static void p07_the_other_street_is_there_until_its_end() {
        Recipe recipe = land -> {
            STREETS.make(land);
            land.end(1, -1, 30);
        };
        Check.refuses("the day ahead", recipe, Check.STATE, land -> land.name(2, 0, OAK, 29));
        Check.takes("the day", recipe, land -> land.name(2, 0, OAK, 30));
        Check.takes("its end does not matter of itself", land -> {
            STREETS.make(land);
            land.end(2, -1, 0);
        }, land -> land.name(1, 0, ELM, 20));
    }

    @Says(promise = 0, words = "if another STREET that is there, and is a part of the same then")
    private static void p07_a_street_that_has_ended_is_refused_too() {
        Recipe recipe = land -> {
            STREETS.make(land);
            land.end(2, -1, 0);
        };
        Check.refuses("ended, but a part still", recipe, Check.STATE, land -> land.name(2, 0, OAK, 20));
    }

    @Says(promise = 0, words = "if another STREET that is there, and is a part of the same then")
    private static void p07_the_other_street_is_a_part_of_the_same_then() {
        Recipe recipe = land -> {
            land.feature(0, 50, 50);
            land.feature(0, 60, 60);
            land.feature(STREET, 51, 50);
            land.feature(STREET, 52, 50);
            land.part(2, 0, 0);
            land.part(3, 1, 0);
            land.part(3, 0, 20);
            land.part(3, -1, 30);
            land.name(3, 0, OAK, 0);
        };
        Check.takes("of another one", recipe, land -> land.name(2, 0, OAK, 19));
        Check.refuses("of the same from the day on", recipe, Check.STATE, land -> land.name(2, 0, OAK, 20));
        Check.refuses("until ahead of the day", recipe, Check.STATE, land -> land.name(2, 0, OAK, 29));
        Check.takes("of nothing", recipe, land -> land.name(2, 0, OAK, 30));
    }

    @Says(promise = 0, words = "has the same word as its FORM in that tongue then")
    private static void p07_the_form_of_the_other_then() {
        Recipe recipe = land -> {
            STREETS.make(land);
            land.law(0, 30, 15, 5, 0);
        };
        Check.takes("ahead of its name", recipe, land -> land.name(2, 0, OAK, 19));
        Check.refuses("from its day on", recipe, Check.STATE, land -> land.name(2, 0, OAK, 20));
        Check.refuses("ahead of the law", recipe, Check.STATE, land -> land.name(2, 0, OAK, 29));
        Check.takes("another FORM by the law", recipe, land -> land.name(2, 0, OAK, 30));
        Check.takes("not yet that FORM", recipe, land -> land.name(2, 0, Check.word("eak"), 29));
        Check.refuses("that FORM", recipe, Check.STATE, land -> land.name(2, 0, Check.word("eak"), 30));
    }

    @Says(promise = 0, words = "has the same word as its FORM in that tongue then")
    private static void p07_the_form_in_that_tongue() {
        Check.refuses("tongue 0", STREETS, Check.STATE, land -> land.name(2, 0, OAK, 20));
        for (int i = 1; i < 4; i++) {
            int tongue = i;
            Check.takes("tongue " + tongue, STREETS, land -> land.name(2, tongue, OAK, 20));
        }
        Check.takes("another word", STREETS, land -> land.name(2, 0, OAK + 1, 20));
    }

    @Says(promise = 0, words = "has the same word as its FORM in that tongue then")
    private static void p07_laws_of_a_later_day_do_not_matter() {
        // Both would be alike only behind the day from which the name is to hold.
        Recipe recipe = land -> {
            STREETS.make(land);
            land.law(0, 31, 15, 5, 0);
        };
        Check.takes("alike the day behind", recipe, land -> land.name(2, 0, Check.word("eak"), 30));
    }

    @Says(promise = 0, words = "all as known on the present day.")
    private static void p07_refused_as_known_on_the_present_day() {
        Recipe told = land -> {
            STREETS.make(land);
            land.pass(5);
        };
        Check.refuses("as known", told, Check.STATE, land -> land.name(2, 0, OAK, 20));
        Recipe toldToday = land -> {
            told.make(land);
            land.name(1, 0, ELM, 20);
        };
        Check.takes("not its FORM any more, told today", toldToday, land -> land.name(2, 0, OAK, 20));
        Check.refuses("its FORM, told today", toldToday, Check.STATE, land -> land.name(2, 0, ELM, 20));
        Recipe endedToday = land -> {
            told.make(land);
            land.end(1, -1, 0);
        };
        Check.takes("its end, told today", endedToday, land -> land.name(2, 0, OAK, 20));
        Recipe movedToday = land -> {
            told.make(land);
            land.part(1, -1, 10);
        };
        Check.takes("not a part any more, told today", movedToday, land -> land.name(2, 0, OAK, 20));
    }

    @Says(promise = 7, words = "Throws `IllegalArgumentException` if word is none, or day is out of range")
    private static void p07_the_argument_goes_ahead_of_being_refused() {
        Check.refuses("day", STREETS, Check.ARGUMENT, land -> land.name(2, 0, OAK, 10000));
        Check.refuses("tongue", STREETS, Check.INDEX, land -> land.name(2, 4, OAK, 20));
    }

    // ---- promise 8

    @Says(promise = 8, words = "- `tongue`: 0 to 3")
    private static void p08_tongue_is_0_to_3() {
        Check.range(NAMED, Check.INDEX, 0, 3, (land, tongue) -> land.law(tongue, 30, 1, 2, 0));
    }

    @Says(promise = 8, words = "Throws `IndexOutOfBoundsException` if there is no such tongue")
    private static void p08_no_tongue_goes_ahead_of_the_arguments() {
        Check.refuses("day", NAMED, Check.INDEX, land -> land.law(4, -1, 1, 2, 0));
        Check.refuses("letter", NAMED, Check.INDEX, land -> land.law(-1, 0, 0, 2, 0));
        Check.refuses("all", NAMED, Check.INDEX, land -> land.law(4, -1, 0, -1, 27));
    }

    @Says(promise = 8, words = "- `day`: 0 to 9999")
    private static void p08_day_is_0_to_9999() {
        Check.range(NAMED, Check.ARGUMENT, 0, 9999, (land, day) -> land.law(0, day, 1, 2, 0));
        NameLand land = Check.land(TWO);
        land.name(0, 0, 1, 9998);
        land.law(0, 9999, 1, 2, 0);
        Check.due("ahead of the last day", land.form(0, 0, 9998, 0), 1);
        Check.due("on the last day", land.form(0, 0, 9999, 0), 2);
    }

    @Says(promise = 8, words = "- `letter`: 1 to 26")
    private static void p08_letter_is_1_to_26() {
        Check.range(NAMED, Check.ARGUMENT, 1, 26, (land, letter) -> land.law(0, 30, letter, 2, 0));
        NameLand land = Check.land(TWO);
        land.name(0, 0, Check.word("az"), 0);
        land.law(0, 1, 1, 13, 0);
        land.law(0, 2, 26, 14, 0);
        Check.due("the lowest", land.form(0, 0, 1, 0), Check.word("mz"));
        Check.due("the highest", land.form(0, 0, 2, 0), Check.word("mn"));
    }

    @Says(promise = 8, words = "- `first`: 1 to 26, or 0 for nothing")
    private static void p08_first_is_0_to_26() {
        Check.range(NAMED, Check.ARGUMENT, 0, 26, (land, first) -> land.law(0, 30, 1, first, 0));
        NameLand land = Check.land(TWO);
        land.name(0, 0, Check.word("cbc"), 0);
        land.law(0, 1, 3, 1, 0);
        land.law(0, 2, 1, 26, 0);
        land.law(0, 3, 26, 0, 0);
        Check.due("the lowest", land.form(0, 0, 1, 0), Check.word("aba"));
        Check.due("the highest", land.form(0, 0, 2, 0), Check.word("zbz"));
        Check.due("nothing", land.form(0, 0, 3, 0), Check.word("b"));
    }

    @Says(promise = 8, words = "- `second`: 1 to 26, or 0 for none; 0 if first is 0")
    private static void p08_second_is_0_to_26() {
        Check.range(NAMED, Check.ARGUMENT, 0, 26, (land, second) -> land.law(0, 30, 1, 2, second));
        NameLand land = Check.land(TWO);
        land.name(0, 0, Check.word("cbc"), 0);
        land.law(0, 1, 3, 4, 1);
        land.law(0, 2, 4, 5, 26);
        land.law(0, 3, 5, 6, 0);
        Check.due("the lowest", land.form(0, 0, 1, 0), Check.word("dabda"));
        Check.due("the highest", land.form(0, 0, 2, 0), Check.word("ezabeza"));
        Check.due("none", land.form(0, 0, 3, 0), Check.word("fzabfza"));
    }

    @Says(promise = 8, words = "- `second`: 1 to 26, or 0 for none; 0 if first is 0")
    private static void p08_second_is_0_if_first_is_0() {
        Check.takes("both 0", NAMED, land -> land.law(0, 30, 1, 0, 0));
        int[] wrong = {1, 26, -1, 27};
        for (int second : wrong) {
            Check.refuses("second " + second, NAMED, Check.ARGUMENT, land -> land.law(0, 30, 1, 0, second));
        }
    }

    @Says(promise = 0, words = "tells what comes in place of a letter: nothing, or one or two letters.")
    private static void p08_nothing_or_one_or_two_letters() {
        NameLand land = Check.land(TWO);
        land.name(0, 0, Check.word("abc"), 0);
        land.law(0, 1, 2, 24, 25);
        Check.due("two letters", land.form(0, 0, 1, 0), Check.word("axyc"));
        land.law(0, 2, 1, 26, 0);
        Check.due("one letter", land.form(0, 0, 2, 0), Check.word("zxyc"));
        land.law(0, 3, 24, 0, 0);
        Check.due("nothing", land.form(0, 0, 3, 0), Check.word("zyc"));
        land.law(0, 4, 25, 25, 0);
        Check.due("the same letter", land.form(0, 0, 4, 0), Check.word("zyc"));
    }

    @Says(promise = 8, words = "Returns how many laws there are then.")
    private static void p08_laws_of_all_tongues_count() {
        NameLand land = Check.land(TWO);
        for (int i = 1; i <= 12; i++) {
            Check.due("how many", land.law(i % 4, 100 - i, 1, 1, 0), i);
        }
    }

    @Says(promise = 0, words = "A law of a tongue, at most 12 in all, has a day")
    private static void p08_at_most_12_laws_in_all() {
        NameLand land = Check.land(TWO);
        land.name(0, 3, 1, 0);
        for (int i = 1; i < 12; i++) {
            land.law(i % 3, 1, 1, 2, 0);
        }
        Check.due("the 12th", land.law(3, 1, 1, 3, 0), 12);
        Check.due("the 12th applies", land.form(0, 3, 1, 0), 3);
        for (int i = 0; i < 4; i++) {
            int tongue = i;
            Check.fails("a 13th of tongue " + i, Check.STATE, () -> land.law(tongue, 2, 3, 4, 0));
        }
        Check.due("the 13th does not apply", land.form(0, 3, 2, 0), 3);
    }

    @Says(promise = 8, words = "Throws `IllegalStateException` as told above")
    private static void p08_a_13th_law_changes_nothing() {
        Check.refuses("a 13th", ALL_LAWS, Check.STATE, land -> land.law(0, 21, 2, 3, 4));
    }

    @Says(promise = 8, words = "Throws `IllegalArgumentException` if day, letter, first or second is out of range")
    private static void p08_the_argument_goes_ahead_of_a_13th_law() {
        Check.refuses("day", ALL_LAWS, Check.ARGUMENT, land -> land.law(0, 10000, 1, 2, 0));
        Check.refuses("letter", ALL_LAWS, Check.ARGUMENT, land -> land.law(0, 0, 27, 2, 0));
        Check.refuses("first", ALL_LAWS, Check.ARGUMENT, land -> land.law(0, 0, 1, -1, 0));
        Check.refuses("second", ALL_LAWS, Check.ARGUMENT, land -> land.law(0, 0, 1, 0, 1));
        Check.refuses("tongue", ALL_LAWS, Check.INDEX, land -> land.law(4, 0, 1, 0, 1));
    }

    @Says(promise = 8, words = "Throws `IllegalArgumentException` if day, letter, first or second is out of range")
    private static void p08_a_refused_law_does_not_count() {
        NameLand land = Check.land(TWO);
        for (int i = 0; i < 13; i++) {
            Check.fails("letter", Check.ARGUMENT, () -> land.law(0, 0, 0, 1, 0));
            Check.fails("tongue", Check.INDEX, () -> land.law(4, 0, 1, 1, 0));
        }
        for (int i = 1; i <= 12; i++) {
            Check.due("how many", land.law(0, i, 1, 2, 0), i);
        }
    }

    @Says(promise = 0, words = "all that is told is known from the present day on")
    private static void p08_a_law_is_known_from_the_present_day_on() {
        NameLand land = Check.land(TWO);
        land.name(0, 0, 1, 0);
        land.pass(5);
        land.law(0, 2, 1, 2, 0);
        Check.due("known the day ahead", land.form(0, 0, 2, 4), 1);
        Check.due("known on the day", land.form(0, 0, 2, 5), 2);
        Check.due("ahead of its own day", land.form(0, 0, 1, 5), 1);
    }

    // ---- promise 9

    @Says(promise = 9, words = "- `feature`: a feature")
    private static void p09_feature_exists() {
        Check.range(NAMED, Check.INDEX, 0, 1, (land, feature) -> land.except(feature, 0, 20));
    }

    @Says(promise = 9, words = "- `tongue`: 0 to 3")
    private static void p09_tongue_is_0_to_3() {
        Check.range(NAMED, Check.INDEX, 0, 3, (land, tongue) -> land.except(0, tongue, 20));
        for (int i = 0; i < 4; i++) {
            NameLand land = Check.land(NAMED);
            land.except(0, i, 0);
            Check.due("an exception in tongue " + i, land.form(0, 0, 20, 0), Check.word(i == 0 ? "abc" : "bbc"));
        }
    }

    @Says(promise = 9, words = "- `day`: 0 to 9999")
    private static void p09_day_is_0_to_9999() {
        Check.range(NAMED, Check.ARGUMENT, 0, 9999, (land, day) -> land.except(0, 0, day));
        NameLand land = Check.land(TWO);
        land.name(0, 0, 1, 0);
        land.law(0, 9998, 1, 2, 0);
        land.law(0, 9999, 2, 3, 0);
        Check.due("without it", land.form(0, 0, 9999, 0), 3);
        land.except(0, 0, 9999);
        Check.due("the last day", land.form(0, 0, 9999, 0), 2);
        land.except(0, 0, 0);
        Check.due("the first day", land.form(0, 0, 9999, 0), 1);
    }

    @Says(promise = 9, words = "Throws `IndexOutOfBoundsException` if there is no such feature or tongue")
    private static void p09_no_tongue_goes_ahead_of_the_day() {
        Check.refuses("feature", NAMED, Check.INDEX, land -> land.except(2, 0, -1));
        Check.refuses("tongue", NAMED, Check.INDEX, land -> land.except(0, 4, 10000));
        Check.refuses("both", NAMED, Check.INDEX, land -> land.except(-1, -1, -1));
    }

    @Says(promise = 9, words = "Throws `IllegalStateException` if 40 were told")
    private static void p09_40_exceptions() {
        NameLand land = Check.land(NAMED);
        for (int i = 0; i < 39; i++) {
            land.except(i % 2, 1 + i % 3, 0);
        }
        Check.due("without the 40th", land.form(0, 0, 20, 0), Check.word("bbc"));
        land.except(0, 0, 20);
        Check.due("the 40th counts", land.form(0, 0, 20, 0), Check.word("abc"));
        Check.fails("a 41st", Check.STATE, () -> land.except(0, 0, 0));
        Check.fails("a 41st of another feature", Check.STATE, () -> land.except(1, 3, 0));
        Check.due("a new feature", land.feature(0, 0, 0), 2);
        Check.fails("a 41st of a new feature", Check.STATE, () -> land.except(2, 0, 0));
    }

    @Says(promise = 9, words = "Throws `IllegalStateException` if 40 were told")
    private static void p09_a_41st_exception_changes_nothing() {
        Check.refuses("a 41st", ALL_EXCEPTIONS, Check.STATE, land -> land.except(0, 0, 0));
    }

    @Says(promise = 9, words = "Throws `IllegalArgumentException` if day is out of range")
    private static void p09_the_argument_goes_ahead_of_a_41st_exception() {
        Check.refuses("day -1", ALL_EXCEPTIONS, Check.ARGUMENT, land -> land.except(0, 0, -1));
        Check.refuses("day 10000", ALL_EXCEPTIONS, Check.ARGUMENT, land -> land.except(0, 0, 10000));
        Check.refuses("tongue", ALL_EXCEPTIONS, Check.INDEX, land -> land.except(0, 4, 0));
    }

    @Says(promise = 9, words = "Throws `IllegalArgumentException` if day is out of range")
    private static void p09_a_refused_exception_does_not_count() {
        NameLand land = Check.land(NAMED);
        for (int i = 0; i < 41; i++) {
            Check.fails("day", Check.ARGUMENT, () -> land.except(0, 0, -1));
            Check.fails("tongue", Check.INDEX, () -> land.except(0, 4, 0));
        }
        for (int i = 0; i < 40; i++) {
            land.except(0, 0, 20);
        }
        Check.due("the 40th", land.form(0, 0, 20, 0), Check.word("abc"));
    }

    @Says(promise = 0, words = "laws with that day or a later one do not apply to it, whatever day is asked")
    private static void p09_laws_with_that_day_or_a_later_one() {
        NameLand land = Check.land(TWO);
        land.name(0, 0, 1, 0);
        land.law(0, 19, 1, 2, 0);
        land.law(0, 20, 2, 3, 0);
        land.law(0, 21, 2, 4, 0);
        land.except(0, 0, 20);
        Check.due("the law of the day ahead applies", land.form(0, 0, 19, 0), 2);
        Check.due("that of the day does not", land.form(0, 0, 20, 0), 2);
        Check.due("that of the day behind does not", land.form(0, 0, 21, 0), 2);
        Check.due("on the last day", land.form(0, 0, 9999, 0), 2);
        land.except(0, 0, 19);
        Check.due("an exception with the day of the first law", land.form(0, 0, 19, 0), 1);
    }

    @Says(promise = 0, words = "laws with that day or a later one do not apply to it, whatever day is asked")
    private static void p09_a_name_of_a_later_day_is_excepted_too() {
        NameLand land = Check.land(TWO);
        land.except(0, 0, 20);
        land.name(0, 0, 1, 50);
        land.law(0, 60, 1, 2, 0);
        Check.due("a name behind the exception", land.form(0, 0, 60, 0), 1);
        land.name(1, 0, 1, 50);
        Check.due("another feature", land.form(1, 0, 60, 0), 2);
        land.name(0, 1, 1, 50);
        land.law(1, 60, 1, 2, 0);
        Check.due("another tongue", land.form(0, 1, 60, 0), 2);
    }

    @Says(promise = 0, words = "(of several exceptions that are known the earliest day counts)")
    private static void p09_the_earliest_day_counts() {
        NameLand land = Check.land(TWO);
        land.name(0, 0, 1, 0);
        land.law(0, 10, 1, 2, 0);
        land.law(0, 20, 2, 3, 0);
        land.law(0, 30, 3, 4, 0);
        land.except(0, 0, 20);
        land.except(0, 0, 30);
        Check.due("not the one told last", land.form(0, 0, 30, 0), 2);
        land.except(0, 0, 10);
        Check.due("the earliest, told last", land.form(0, 0, 30, 0), 1);
    }

    @Says(promise = 0, words = "(of several exceptions that are known the earliest day counts)")
    private static void p09_an_exception_is_known_from_the_present_day_on() {
        NameLand land = Check.land(TWO);
        land.name(0, 0, 1, 0);
        land.law(0, 10, 1, 2, 0);
        land.law(0, 20, 2, 3, 0);
        land.pass(5);
        land.except(0, 0, 20);
        land.pass(1);
        land.except(0, 0, 10);
        Check.due("known the day ahead", land.form(0, 0, 20, 4), 3);
        Check.due("known on the day", land.form(0, 0, 20, 5), 2);
        Check.due("the other one, known on the day", land.form(0, 0, 20, 6), 1);
    }

    // ---- promise 10

    @Says(promise = 10, words = "- `feature`: a feature")
    private static void p10_feature_exists() {
        Check.range(NAMED, Check.INDEX, 0, 1, (land, feature) -> land.form(feature, 0, 10, 0));
    }

    @Says(promise = 10, words = "- `tongue`: 0 to 3")
    private static void p10_tongue_is_0_to_3() {
        Check.range(NAMED, Check.INDEX, 0, 3, (land, tongue) -> land.form(0, tongue, 10, 0));
    }

    @Says(promise = 10, words = "- `day`: 0 to 9999")
    private static void p10_day_is_0_to_9999() {
        Check.range(NAMED, Check.ARGUMENT, 0, 9999, (land, day) -> land.form(0, 0, day, 0));
        NameLand land = Check.land(NAMED);
        Check.due("on the first day", land.form(0, 0, 0, 0), 0);
        Check.due("on the last day", land.form(0, 0, 9999, 0), Check.word("bbc"));
    }

    @Says(promise = 10, words = "- `known`: 0 to 9999")
    private static void p10_known_is_0_to_9999() {
        Check.range(NAMED, Check.ARGUMENT, 0, 9999, (land, known) -> land.form(0, 0, 10, known));
        NameLand land = Check.land(NAMED);
        Check.due("known on the first day", land.form(0, 0, 10, 0), Check.word("abc"));
        Check.due("known on the last day", land.form(0, 0, 10, 9999), Check.word("abc"));
    }

    @Says(promise = 10, words = "Throws `IndexOutOfBoundsException` if there is no such feature or tongue")
    private static void p10_no_tongue_goes_ahead_of_the_arguments() {
        Check.refuses("feature, day", NAMED, Check.INDEX, land -> land.form(2, 0, -1, 0));
        Check.refuses("feature, known", NAMED, Check.INDEX, land -> land.form(-1, 0, 0, 10000));
        Check.refuses("tongue, day", NAMED, Check.INDEX, land -> land.form(0, 4, 10000, 0));
        Check.refuses("tongue, known", NAMED, Check.INDEX, land -> land.form(0, -1, 0, -1));
    }

    @Says(promise = 10, words = "Throws `IllegalArgumentException` if day or known is out of range")
    private static void p10_each_argument_alone() {
        Check.refuses("day", NAMED, Check.ARGUMENT, land -> land.form(0, 0, 10000, 0));
        Check.refuses("known", NAMED, Check.ARGUMENT, land -> land.form(0, 0, 0, 10000));
        Check.refuses("both", NAMED, Check.ARGUMENT, land -> land.form(0, 0, -1, -1));
        Check.refuses("both, without a name", NAMED, Check.ARGUMENT, land -> land.form(1, 3, -1, 10000));
    }

    @Says(promise = 10, words = "Returns the word; 0 if there is none.")
    private static void p10_without_a_name_it_is_0() {
        NameLand land = Check.land(NAMED);
        Check.due("ahead of the name", land.form(0, 0, 9, 0), 0);
        Check.due("in another tongue", land.form(0, 1, 10, 0), 0);
        Check.due("of another feature", land.form(1, 0, 10, 0), 0);
        Check.due("a feature without names", land.form(1, 3, 9999, 9999), 0);
    }

    @Says(promise = 0, words = "A FORM without letters is 0, as it is without a name.")
    private static void p10_without_letters_it_is_0() {
        NameLand land = Check.land(TWO);
        land.name(0, 0, Check.word("aaaaaaaa"), 0);
        land.law(0, 1, 1, 0, 0);
        land.law(0, 2, 1, 2, 3);
        Check.due("all letters but the law's day", land.form(0, 0, 0, 0), Check.word("aaaaaaaa"));
        Check.due("without letters", land.form(0, 0, 1, 0), 0);
        Check.due("a later law adds none", land.form(0, 0, 2, 0), 0);
        land.name(0, 0, 1, 2);
        Check.due("a new name", land.form(0, 0, 2, 0), 1);
    }

    @Says(promise = 0, words = "the laws of the tongue are applied that have a day behind that from which the name holds, "
        + "and at most the day asked")
    private static void p10_laws_have_a_day_behind_that_of_the_name() {
        NameLand land = Check.land(TWO);
        land.name(0, 0, 1, 10);
        land.law(0, 9, 1, 2, 0);
        Check.due("the day ahead of the name's", land.form(0, 0, 50, 0), 1);
        land.law(0, 10, 1, 3, 0);
        Check.due("the day of the name", land.form(0, 0, 50, 0), 1);
        land.law(0, 11, 1, 4, 0);
        Check.due("the day behind the name's", land.form(0, 0, 50, 0), 4);
        land.law(0, 0, 1, 5, 0);
        Check.due("the first day", land.form(0, 0, 50, 0), 4);
    }

    @Says(promise = 0, words = "the laws of the tongue are applied that have a day behind that from which the name holds, "
        + "and at most the day asked")
    private static void p10_laws_have_at_most_the_day_asked() {
        NameLand land = Check.land(NAMED);
        Check.due("the day ahead of the law's", land.form(0, 0, 19, 0), Check.word("abc"));
        Check.due("the day of the law", land.form(0, 0, 20, 0), Check.word("bbc"));
        Check.due("the day behind", land.form(0, 0, 21, 0), Check.word("bbc"));
    }

    @Says(promise = 0, words = "the laws of the tongue are applied that have a day behind that from which the name holds, "
        + "and at most the day asked")
    private static void p10_only_laws_of_the_tongue() {
        NameLand land = Check.land(TWO);
        for (int tongue = 0; tongue < 4; tongue++) {
            land.name(0, tongue, 1, 0);
            land.law(tongue, 1, 1, 10 + tongue, 0);
        }
        for (int tongue = 0; tongue < 4; tongue++) {
            Check.due("tongue " + tongue, land.form(0, tongue, 1, 0), 10 + tongue);
        }
    }

    @Says(promise = 0, words = "by their days, of one day as they were told")
    private static void p10_laws_by_their_days() {
        NameLand land = Check.land(TWO);
        land.name(0, 0, 1, 0);
        land.law(0, 30, 3, 4, 0);
        land.law(0, 20, 2, 3, 0);
        land.law(0, 10, 1, 2, 0);
        Check.due("told in the other order", land.form(0, 0, 30, 0), 4);
        Check.due("two of them", land.form(0, 0, 20, 0), 3);
    }

    @Says(promise = 0, words = "by their days, of one day as they were told")
    private static void p10_laws_of_one_day_as_they_were_told() {
        NameLand land = Check.land(TWO);
        land.name(0, 0, 1, 0);
        land.law(0, 10, 1, 2, 0);
        land.law(0, 10, 2, 3, 0);
        Check.due("the second one behind the first", land.form(0, 0, 10, 0), 3);
        land.name(0, 1, 1, 0);
        land.law(1, 10, 2, 3, 0);
        land.law(1, 10, 1, 2, 0);
        Check.due("the first one does not wait for the second", land.form(0, 1, 10, 0), 2);
    }

    @Says(promise = 0, words = "to the letters that there are, each at once")
    private static void p10_each_letter_at_once() {
        NameLand land = Check.land(TWO);
        land.name(0, 0, Check.word("ab"), 0);
        land.law(0, 1, 1, 1, 1);
        Check.due("a letter that comes is not changed again", land.form(0, 0, 1, 0), Check.word("aab"));
        land.law(0, 2, 1, 2, 1);
        Check.due("nor the second one", land.form(0, 0, 2, 0), Check.word("babab"));
        land.law(0, 3, 2, 0, 0);
        Check.due("all of them", land.form(0, 0, 3, 0), Check.word("aa"));
    }

    @Says(promise = 0, words = "behind each law the first 12 letters stay.")
    private static void p10_the_first_12_letters_stay() {
        NameLand land = Check.land(TWO);
        land.name(0, 0, Check.word("aaaaaabc"), 0);
        land.law(0, 1, 2, 24, 25);
        Check.due("9 letters", land.form(0, 0, 1, 0), Check.word("aaaaaaxyc"));
        land.law(0, 2, 25, 4, 5);
        land.law(0, 3, 24, 6, 7);
        land.law(0, 4, 3, 8, 9);
        Check.due("11 letters", land.form(0, 0, 3, 0), Check.word("aaaaaafgdec"));
        Check.due("12 letters, all stay", land.form(0, 0, 4, 0), Check.word("aaaaaafgdehi"));
        land.law(0, 5, 9, 10, 11);
        Check.due("13 letters, the last one goes", land.form(0, 0, 5, 0), Check.word("aaaaaafgdehj"));
        land.law(0, 6, 1, 1, 2);
        Check.due("18 letters", land.form(0, 0, 6, 0), Check.word("abababababab"));
        land.law(0, 7, 1, 0, 0);
        Check.due("what went is gone", land.form(0, 0, 7, 0), Check.word("bbbbbb"));
    }

    @Says(promise = 0, words = "behind each law the first 12 letters stay.")
    private static void p10_the_longest_form_is_the_highest_word() {
        NameLand land = Check.land(TWO);
        land.name(0, 0, Check.word("zzzzzzzz"), 0);
        for (int i = 1; i <= 12; i++) {
            land.law(0, i, 26, 26, 26);
        }
        Check.due("16 letters, 12 stay", land.form(0, 0, 1, 0), 150094635296999120L);
        Check.due("12 laws", land.form(0, 0, 12, 0), 150094635296999120L);
    }

    @Says(promise = 0, words = "A feature is there from the day on on which it was told itself, "
        + "also if places of earlier days are told of it, until ahead of the day of its end.")
    private static void p10_a_form_does_not_ask_whether_it_is_there() {
        NameLand land = new NameLand();
        land.pass(10);
        land.feature(0, 1, 1);
        land.name(0, 0, 1, 3);
        land.end(0, -1, 20);
        Check.due("ahead of the feature", land.form(0, 0, 3, 10), 1);
        Check.due("behind its end", land.form(0, 0, 20, 10), 1);
    }
}
