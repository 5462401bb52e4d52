/** Promises 17 to 20, a test for each sentence that names a boundary: census, dispute, shown, display. */
public final class ShownEdgesTest {
    private static final Recipe TWO = land -> {
        land.feature(0, 10, 20);
        land.feature(1, 30, 40);
    };
    /** Feature 0 has the FORM t + 1 in each tongue t, feature 1 has none. */
    private static final Recipe NAMED = land -> {
        TWO.make(land);
        for (int tongue = 0; tongue < 4; tongue++) {
            land.name(0, tongue, tongue + 1, 0);
        }
    };

    public static void main(String[] args) {
        Edges.run(ShownEdgesTest.class);
    }

    /** A land in which feature 0 has the FORM t + 1 in each tongue t of a set. */
    private static NameLand namedIn(int tongues) {
        NameLand land = Check.land(TWO);
        for (int tongue = 0; tongue < 4; tongue++) {
            if ((tongues & 1 << tongue) != 0) {
                land.name(0, tongue, tongue + 1, 0);
            }
        }
        return land;
    }

    private static int lowestOf(int tongues) {
        return tongues == 0 ? 0 : Integer.numberOfTrailingZeros(tongues) + 1;
    }

    // ---- promise 17

    @Says(promise = 17, words = "- `feature`: a feature")
    private static void p17_feature_exists() {
        Check.range(NAMED, Check.INDEX, 0, 1, (land, feature) -> land.census(feature, 0, 50));
    }

    @Says(promise = 17, words = "- `tongue`: 0 to 3")
    private static void p17_tongue_is_0_to_3() {
        Check.range(NAMED, Check.INDEX, 0, 3, (land, tongue) -> land.census(0, tongue, 50));
    }

    @Says(promise = 17, words = "- `hundredths`: 0 to 100")
    private static void p17_hundredths_are_0_to_100() {
        Check.range(NAMED, Check.ARGUMENT, 0, 100, (land, hundredths) -> land.census(0, 0, hundredths));
        NameLand land = Check.land(NAMED);
        land.census(0, 3, 100);
        Check.due("the highest", land.census(0, 3, 0), 100);
        Check.due("the lowest", land.census(0, 3, 100), 0);
    }

    @Says(promise = 17, words = "Returns what was told, 0 at first.")
    private static void p17_0_at_first() {
        NameLand land = Check.land(NAMED);
        for (int i = 0; i < 8; i++) {
            Check.due("at first", land.census(i / 4, i % 4, 10 + i), 0);
        }
        for (int i = 0; i < 8; i++) {
            Check.due("what was told", land.census(i / 4, i % 4, 50), 10 + i);
        }
        Check.due("in place of what was told", land.census(1, 3, 7), 50);
    }

    @Says(promise = 0, words = "A census tells for a feature how many hundredths speak a tongue, in place of what was told.")
    private static void p17_all_together_may_be_more_than_100() {
        NameLand land = Check.land(NAMED);
        for (int tongue = 0; tongue < 4; tongue++) {
            land.census(0, tongue, 100);
        }
        Check.due("all are shown", land.shown(0, 0), 15);
    }

    @Says(promise = 17, words = "Throws `IndexOutOfBoundsException` if there is no such feature or tongue")
    private static void p17_no_tongue_goes_ahead_of_the_hundredths() {
        Check.refuses("feature", NAMED, Check.INDEX, land -> land.census(2, 0, 101));
        Check.refuses("tongue", NAMED, Check.INDEX, land -> land.census(0, 4, -1));
        Check.refuses("both", NAMED, Check.INDEX, land -> land.census(-1, -1, 101));
    }

    @Says(promise = 17, words = "Throws `IllegalArgumentException` if hundredths is out of range")
    private static void p17_a_refused_census_is_not_told() {
        NameLand land = Check.land(NAMED);
        land.census(0, 0, 33);
        Check.fails("101", Check.ARGUMENT, () -> land.census(0, 0, 101));
        Check.fails("-1", Check.ARGUMENT, () -> land.census(0, 0, -1));
        Check.due("what was told ahead", land.census(0, 0, 0), 33);
    }

    // ---- promise 18

    @Says(promise = 18, words = "- `feature`: a feature")
    private static void p18_feature_exists() {
        Check.range(NAMED, Check.INDEX, 0, 1, (land, feature) -> land.dispute(feature, 1, 2));
    }

    @Says(promise = 18, words = "- `one`: 0 to 3")
    private static void p18_one_is_0_to_3() {
        Check.range(NAMED, Check.INDEX, 0, 3, (land, one) -> land.dispute(0, one, 2));
    }

    @Says(promise = 18, words = "- `other`: 0 to 3")
    private static void p18_other_is_0_to_3() {
        Check.range(NAMED, Check.INDEX, 0, 3, (land, other) -> land.dispute(0, 2, other));
    }

    @Says(promise = 18, words = "Throws `IndexOutOfBoundsException` if there is no such feature or tongue")
    private static void p18_two_like_tongues_that_do_not_exist() {
        Check.refuses("both 4", NAMED, Check.INDEX, land -> land.dispute(0, 4, 4));
        Check.refuses("both -1", NAMED, Check.INDEX, land -> land.dispute(0, -1, -1));
        Recipe disputed = land -> {
            NAMED.make(land);
            land.dispute(0, 1, 2);
        };
        Check.refuses("it stays disputed", disputed, Check.INDEX, land -> land.dispute(0, 4, 4));
        Check.refuses("one exists", disputed, Check.INDEX, land -> land.dispute(0, 0, 4));
        Check.refuses("the other exists", disputed, Check.INDEX, land -> land.dispute(0, -1, 3));
    }

    @Says(promise = 18, words = "Lets a feature be disputed, or, with two like tongues, not any more.")
    private static void p18_two_like_tongues_end_it() {
        for (int like = 0; like < 4; like++) {
            NameLand land = Check.land(NAMED);
            Check.due("not disputed at first", land.display(0, 0), 1);
            land.dispute(0, 3, 2);
            Check.due("disputed", land.display(0, 0), 3);
            land.dispute(0, like, like);
            for (int tongue = 0; tongue < 4; tongue++) {
                Check.due("not any more, by " + like, land.display(0, tongue), tongue + 1);
            }
        }
    }

    @Says(promise = 0, words = "A feature may be disputed by two tongues")
    private static void p18_the_last_dispute_counts() {
        NameLand land = Check.land(NAMED);
        land.dispute(0, 0, 1);
        land.dispute(0, 2, 3);
        Check.due("not one of the first any more", land.display(0, 0), 3);
        Check.due("one of the last", land.display(0, 3), 4);
        Check.due("another feature", land.display(1, 0), 0);
    }

    // ---- promise 19

    @Says(promise = 19, words = "- `feature`: a feature")
    private static void p19_feature_exists() {
        Check.range(NAMED, Check.INDEX, 0, 1, (land, feature) -> land.shown(feature, 0));
    }

    @Says(promise = 19, words = "- `day`: 0 to 9999")
    private static void p19_day_is_0_to_9999() {
        Check.range(NAMED, Check.ARGUMENT, 0, 9999, (land, day) -> land.shown(0, day));
        NameLand land = Check.land(NAMED);
        land.census(0, 2, 20);
        Check.due("on the first day", land.shown(0, 0), 4);
        Check.due("on the last day", land.shown(0, 9999), 4);
    }

    @Says(promise = 19, words = "Throws `IndexOutOfBoundsException` if there is no such feature")
    private static void p19_no_feature_goes_ahead_of_the_day() {
        Check.refuses("day -1", NAMED, Check.INDEX, land -> land.shown(2, -1));
        Check.refuses("day 10000", NAMED, Check.INDEX, land -> land.shown(-1, 10000));
    }

    @Says(promise = 19, words = "Throws `IllegalArgumentException` if day is out of range")
    private static void p19_the_day_of_a_feature_without_a_form() {
        Check.range(NAMED, Check.ARGUMENT, 0, 9999, (land, day) -> land.shown(1, day));
    }

    @Says(promise = 0, words = "are those in which it has a FORM then, of which the hundredths are at least 20")
    private static void p19_at_least_20_hundredths() {
        int[] told = {0, 19, 20, 21, 100};
        for (int hundredths : told) {
            NameLand land = Check.land(NAMED);
            land.census(0, 1, 50);
            land.census(0, 3, hundredths);
            Check.due("hundredths " + hundredths, land.shown(0, 0), hundredths < 20 ? 2 : 10);
        }
    }

    @Says(promise = 19, words = "Returns the tongues, as a set.")
    private static void p19_all_sets_of_tongues() {
        for (int set = 1; set < 16; set++) {
            NameLand land = Check.land(NAMED);
            for (int tongue = 0; tongue < 4; tongue++) {
                land.census(0, tongue, (set & 1 << tongue) != 0 ? 20 : 19);
            }
            Check.due("the set " + set, land.shown(0, 0), set);
        }
    }

    @Says(promise = 19, words = "Returns the tongues, as a set.")
    private static void p19_without_a_form_the_set_is_empty() {
        NameLand land = Check.land(TWO);
        Check.due("without names", land.shown(0, 0), 0);
        for (int tongue = 0; tongue < 4; tongue++) {
            land.census(0, tongue, 100);
        }
        Check.due("without names, though spoken", land.shown(0, 0), 0);
        land.name(0, 2, 1, 5);
        Check.due("ahead of the name", land.shown(0, 4), 0);
        Check.due("the day of the name", land.shown(0, 5), 4);
        land.law(2, 6, 1, 0, 0);
        Check.due("a FORM without letters", land.shown(0, 6), 0);
    }

    @Says(promise = 0, words = "or else, of those in which it has a FORM, that with the most, the lowest one.")
    private static void p19_or_else_that_with_the_most() {
        int[][] told = {{0, 0, 0, 0, 1}, {0, 0, 0, 1, 8}, {19, 19, 19, 19, 1}, {18, 19, 19, 18, 2}, {1, 2, 3, 4, 8},
            {4, 3, 2, 1, 1}, {18, 18, 19, 18, 4}, {19, 19, 19, 20, 8}, {0, 1, 0, 1, 2}};
        for (int[] t : told) {
            NameLand land = Check.land(NAMED);
            for (int tongue = 0; tongue < 4; tongue++) {
                land.census(0, tongue, t[tongue]);
            }
            Check.due("hundredths " + t[0] + " " + t[1] + " " + t[2] + " " + t[3], land.shown(0, 0), t[4]);
        }
    }

    @Says(promise = 0, words = "or else, of those in which it has a FORM, that with the most, the lowest one.")
    private static void p19_tongues_without_a_form_do_not_count() {
        for (int tongues = 0; tongues < 16; tongues++) {
            NameLand land = namedIn(tongues);
            Check.due("FORMs in " + tongues, land.shown(0, 0), Integer.lowestOneBit(tongues));
            for (int tongue = 0; tongue < 4; tongue++) {
                land.census(0, tongue, 20);
            }
            Check.due("FORMs in " + tongues + ", all spoken", land.shown(0, 0), tongues);
        }
        NameLand land = namedIn(2 + 8);
        land.census(0, 0, 100);
        land.census(0, 3, 1);
        Check.due("most have no FORM", land.shown(0, 0), 8);
    }

    @Says(promise = 0, words = "The tongues in which a feature is shown on a day, as known on the present day")
    private static void p19_as_known_on_the_present_day() {
        NameLand land = Check.land(TWO);
        land.pass(5);
        Check.due("ahead", land.shown(0, 2), 0);
        land.name(0, 1, 1, 2);
        Check.due("told today for a day that was", land.shown(0, 2), 2);
        Check.due("ahead of that", land.shown(0, 1), 0);
        land.law(1, 4, 1, 0, 0);
        Check.due("a law that was told today", land.shown(0, 4), 0);
        land.pass(1);
        land.except(0, 1, 0);
        Check.due("an exception that was told today", land.shown(0, 4), 2);
    }

    @Says(promise = 0, words = "The tongues in which a feature is shown on a day, as known on the present day")
    private static void p19_a_feature_that_is_not_there_is_shown() {
        NameLand land = new NameLand();
        land.pass(10);
        land.feature(0, 1, 1);
        land.name(0, 2, 1, 5);
        land.end(0, -1, 20);
        Check.due("ahead of the name", land.shown(0, 4), 0);
        Check.due("ahead of the feature", land.shown(0, 5), 4);
        Check.due("behind its end", land.shown(0, 20), 4);
    }

    // ---- promise 20

    @Says(promise = 20, words = "- `feature`: a feature")
    private static void p20_feature_exists() {
        Check.range(NAMED, Check.INDEX, 0, 1, (land, feature) -> land.display(feature, 0));
    }

    @Says(promise = 20, words = "- `tongue`: 0 to 3: of the reader")
    private static void p20_tongue_is_0_to_3() {
        Check.range(NAMED, Check.INDEX, 0, 3, (land, tongue) -> land.display(0, tongue));
    }

    @Says(promise = 20, words = "Throws `IndexOutOfBoundsException` if there is no such feature or tongue")
    private static void p20_neither_feature_nor_tongue() {
        Check.refuses("both", NAMED, Check.INDEX, land -> land.display(2, 4));
        Check.refuses("no features", land -> { }, Check.INDEX, land -> land.display(0, 0));
    }

    @Says(promise = 20, words = "Returns the word; 0 if there is none.")
    private static void p20_without_a_form_it_is_0() {
        NameLand land = Check.land(NAMED);
        for (int tongue = 0; tongue < 4; tongue++) {
            Check.due("tongue " + tongue, land.display(1, tongue), 0);
        }
        land.name(1, 0, 1, 1);
        Check.due("a name from tomorrow on", land.display(1, 0), 0);
        land.pass(1);
        Check.due("a name from today on", land.display(1, 3), 1);
    }

    @Says(promise = 0, words = "of one that is not disputed a reader sees the FORM in the own tongue, or, without one, "
        + "that in the lowest tongue that has one.")
    private static void p20_own_tongue_or_the_lowest() {
        for (int tongues = 0; tongues < 16; tongues++) {
            NameLand land = namedIn(tongues);
            for (int reader = 0; reader < 4; reader++) {
                int want = (tongues & 1 << reader) != 0 ? reader + 1 : lowestOf(tongues);
                Check.due("FORMs in " + tongues + ", reader " + reader, land.display(0, reader), want);
            }
        }
    }

    @Says(promise = 0, words = "a reader of one of these sees its FORM in that, another one in the lower one of both, "
        + "and nothing without that FORM")
    private static void p20_disputed_by_two_tongues() {
        for (int tongues = 0; tongues < 16; tongues++) {
            for (int pair = 0; pair < 16; pair++) {
                int one = pair / 4;
                int other = pair % 4;
                if (one != other) {
                    disputed(tongues, one, other);
                }
            }
        }
    }

    private static void disputed(int tongues, int one, int other) {
        NameLand land = namedIn(tongues);
        land.dispute(0, one, other);
        for (int reader = 0; reader < 4; reader++) {
            int seen = reader == one || reader == other ? reader : Math.min(one, other);
            int want = (tongues & 1 << seen) != 0 ? seen + 1 : 0;
            Check.due("FORMs in " + tongues + ", disputed by " + one + " and " + other + ", reader " + reader,
                land.display(0, reader), want);
        }
    }

    @Says(promise = 20, words = "Returns what a reader sees of a feature now.")
    private static void p20_a_feature_that_is_not_there_is_seen() {
        NameLand land = Check.land(NAMED);
        land.end(0, 1, 0);
        Check.due("the FORM in the own tongue", land.display(0, 3), 4);
        land.dispute(0, 1, 2);
        Check.due("disputed", land.display(0, 3), 2);
    }

    @Says(promise = 20, words = "Returns what a reader sees of a feature now.")
    private static void p20_a_form_without_letters_is_none() {
        NameLand land = Check.land(NAMED);
        land.law(0, 1, 1, 0, 0);
        Check.due("ahead of the law", land.display(0, 0), 1);
        land.pass(1);
        Check.due("without letters, the lowest that has one", land.display(0, 0), 2);
        land.dispute(0, 0, 3);
        Check.due("disputed, nothing", land.display(0, 0), 0);
        Check.due("disputed, another reader sees nothing", land.display(0, 1), 0);
        Check.due("disputed, the other tongue", land.display(0, 3), 4);
    }
}
