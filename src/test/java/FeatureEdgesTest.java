/** Promises 1 to 6, a test for each sentence that names a boundary: a new object, feature, move, part, end, of. */
public final class FeatureEdgesTest {
    private static final Recipe NOTHING = land -> { };
    private static final Recipe ONE = land -> land.feature(0, 50, 50);
    private static final Recipe THREE = land -> features(land, 3);
    private static final Recipe ALL_24 = land -> features(land, 24);

    private static void features(NameLand land, int count) {
        for (int i = 0; i < count; i++) {
            land.feature(i % 5, i, 90 - i);
        }
    }

    public static void main(String[] args) {
        Edges.run(FeatureEdgesTest.class);
    }

    // ---- promise 1

    @Says(promise = 1, words = "Creates a land without features, on the day 0.")
    private static void p01_a_new_land_has_no_features() {
        Check.Call[] calls = {land -> land.move(0, 0, 0, 0), land -> land.part(0, -1, 0), land -> land.end(0, -1, 0),
            land -> land.of(0, 0, 0, 0), land -> land.name(0, 0, 1, 0), land -> land.except(0, 0, 0),
            land -> land.form(0, 0, 0, 0), land -> land.petition(0, 0, 1, 30), land -> land.census(0, 0, 0),
            land -> land.dispute(0, 0, 0), land -> land.shown(0, 0), land -> land.display(0, 0),
            land -> land.copy(0, 0, 0), land -> land.order(0), land -> land.sign(0), land -> land.cost(0, 0)};
        for (int i = 0; i < calls.length; i++) {
            Check.refuses("call " + i, NOTHING, Check.INDEX, calls[i]);
        }
    }

    @Says(promise = 1, words = "Creates a land without features, on the day 0.")
    private static void p01_a_new_land_is_on_day_0() {
        Check.due("the day behind", Check.land(NOTHING).pass(1), 1);
        NameLand land = Check.land(ONE);
        Check.due("there on day 0", land.of(0, 0, 0, 0), 1);
        Check.due("no copy is behind", land.pull(0), 0);
        Check.refuses("29 days ahead", ONE, Check.ARGUMENT, made -> made.petition(0, 0, 1, 29));
        Check.takes("30 days ahead", ONE, made -> made.petition(0, 0, 1, 30));
    }

    @Says(promise = 1, words = "Creates a land without features, on the day 0.")
    private static void p01_a_new_land_answers_as_empty() {
        NameLand land = new NameLand();
        Check.due("assign", land.assign(), 0);
        Check.due("ways", land.ways(), 1);
        Check.due("find", land.find(1, 0, 0, 0), -1);
        Check.due("budget", land.budget(2), 2);
        for (int i = 0; i < 4; i++) {
            Check.due("loss", land.loss(i), 0);
            Check.due("pull", land.pull(i), 0);
        }
        Check.due("the first feature", land.feature(0, 0, 0), 0);
        Check.due("the first name", land.name(0, 0, 1, 0), 1);
        Check.due("the first law", land.law(0, 0, 1, 1, 0), 1);
        Check.due("the first petition", land.petition(0, 0, 1, 30), 0);
        Check.due("the first reading", land.reading(1, 0, 0), 0);
        Check.due("the first order", land.order(0), 1);
    }

    @Says(promise = 1, words = "Creates a land without features, on the day 0.")
    private static void p01_lands_have_nothing_in_common() {
        NameLand one = Check.land(ALL_24);
        NameLand other = new NameLand();
        one.table(0, 1, 2);
        Check.due("the first feature of another land", other.feature(0, 0, 0), 0);
        Check.due("the table of another land", other.write(1, 0), 1);
    }

    @Says(promise = 0, words = "`NONE = -1`: None.")
    private static void p01_the_constant_none() {
        Check.due("NONE", NameLand.NONE, -1);
    }

    @Says(promise = 0, words = "`STREET = 5`: A kind of features.")
    private static void p01_the_constant_street() {
        Check.due("STREET", NameLand.STREET, 5);
    }

    // ---- promise 2

    @Says(promise = 2, words = "- `kind`: 0 to 5")
    private static void p02_kind_is_0_to_5() {
        Check.range(ONE, Check.ARGUMENT, 0, 5, (land, kind) -> land.feature(kind, 0, 0));
    }

    @Says(promise = 2, words = "- `x`: 0 to 99")
    private static void p02_x_is_0_to_99() {
        Check.range(ONE, Check.ARGUMENT, 0, 99, (land, x) -> land.feature(0, x, 0));
        NameLand land = new NameLand();
        land.feature(0, 0, 98);
        land.feature(0, 99, 1);
        Check.due("the lowest", land.of(0, 1, 0, 0), 0);
        Check.due("the highest", land.of(1, 1, 0, 0), 99);
    }

    @Says(promise = 2, words = "- `y`: 0 to 99")
    private static void p02_y_is_0_to_99() {
        Check.range(ONE, Check.ARGUMENT, 0, 99, (land, y) -> land.feature(0, 0, y));
        NameLand land = new NameLand();
        land.feature(0, 98, 0);
        land.feature(0, 1, 99);
        Check.due("the lowest", land.of(0, 2, 0, 0), 0);
        Check.due("the highest", land.of(1, 2, 0, 0), 99);
    }

    @Says(promise = 2, words = "Returns its number.")
    private static void p02_numbers_are_from_0() {
        NameLand land = new NameLand();
        for (int i = 0; i < 24; i++) {
            Check.due("the number", land.feature(5 - i % 6, 99, i), i);
        }
    }

    @Says(promise = 0, words = "Features are numbered from 0, at most 24, with a kind, 0 to 5; 5 is a STREET.")
    private static void p02_at_most_24_features() {
        NameLand land = Check.land(made -> features(made, 23));
        Check.due("the 24th", land.feature(5, 9, 8), 23);
        Check.due("the 24th has its place", land.of(23, 1, 0, 0), 9);
        Check.fails("a 25th", Check.STATE, () -> land.feature(0, 0, 0));
        Check.fails("a feature 24", Check.INDEX, () -> land.of(24, 0, 0, 0));
    }

    @Says(promise = 2, words = "Throws `IllegalStateException` as told above")
    private static void p02_a_25th_feature_changes_nothing() {
        Check.refuses("a 25th", ALL_24, Check.STATE, land -> land.feature(0, 0, 0));
    }

    @Says(promise = 2, words = "Throws `IllegalArgumentException` if kind, x or y is out of range")
    private static void p02_a_refused_feature_does_not_count() {
        NameLand land = new NameLand();
        for (int i = 0; i < 30; i++) {
            Check.fails("kind", Check.ARGUMENT, () -> land.feature(6, 0, 0));
            Check.fails("x", Check.ARGUMENT, () -> land.feature(0, 100, 0));
            Check.fails("y", Check.ARGUMENT, () -> land.feature(0, 0, -1));
        }
        features(land, 23);
        Check.due("the 24th", land.feature(0, 0, 0), 23);
    }

    @Says(promise = 2, words = "Throws `IllegalArgumentException` if kind, x or y is out of range")
    private static void p02_the_argument_goes_ahead_of_a_25th() {
        Check.refuses("kind", ALL_24, Check.ARGUMENT, land -> land.feature(-1, 0, 0));
        Check.refuses("x", ALL_24, Check.ARGUMENT, land -> land.feature(0, 100, 0));
        Check.refuses("y", ALL_24, Check.ARGUMENT, land -> land.feature(0, 0, 100));
    }

    @Says(promise = 2, words = "Tells a feature that is there from the present day on.")
    private static void p02_it_is_there_from_the_present_day_on() {
        NameLand land = new NameLand();
        land.pass(7);
        land.feature(0, 3, 4);
        Check.due("the day ahead", land.of(0, 0, 6, 7), 0);
        Check.due("the day", land.of(0, 0, 7, 7), 1);
        Check.due("the last day", land.of(0, 0, 9999, 7), 1);
        Check.due("no place the day ahead", land.of(0, 1, 6, 7), -1);
        Check.due("no place the day ahead, second number", land.of(0, 2, 6, 7), -1);
        Check.due("the place on the day", land.of(0, 1, 7, 7), 3);
        Check.due("the place on the day, second number", land.of(0, 2, 7, 7), 4);
    }

    @Says(promise = 0, words = "all that is told is known from the present day on")
    private static void p02_it_is_known_from_the_present_day_on() {
        NameLand land = new NameLand();
        land.pass(7);
        land.feature(0, 3, 4);
        Check.due("there, known the day ahead", land.of(0, 0, 7, 6), 0);
        Check.due("there, known on the day", land.of(0, 0, 7, 7), 1);
        Check.due("place, known the day ahead", land.of(0, 1, 7, 6), -1);
        Check.due("place, known on the day", land.of(0, 1, 7, 7), 3);
        Check.due("second number, known the day ahead", land.of(0, 2, 7, 6), -1);
        Check.due("second number, known on the day", land.of(0, 2, 7, 7), 4);
    }

    // ---- promise 3

    @Says(promise = 3, words = "- `feature`: a feature")
    private static void p03_feature_exists() {
        Check.range(THREE, Check.INDEX, 0, 2, (land, feature) -> land.move(feature, 1, 1, 0));
    }

    @Says(promise = 3, words = "Throws `IndexOutOfBoundsException` if there is no such feature")
    private static void p03_the_24th_feature_is_the_last() {
        Check.range(ALL_24, Check.INDEX, 0, 23, (land, feature) -> land.move(feature, 1, 1, 0));
    }

    @Says(promise = 3, words = "- `x`: 0 to 99")
    private static void p03_x_is_0_to_99() {
        Check.range(ONE, Check.ARGUMENT, 0, 99, (land, x) -> land.move(0, x, 1, 0));
        NameLand land = Check.land(ONE);
        land.move(0, 0, 99, 1);
        Check.due("the lowest", land.of(0, 1, 1, 0), 0);
        land.move(0, 99, 0, 2);
        Check.due("the highest", land.of(0, 1, 2, 0), 99);
    }

    @Says(promise = 3, words = "- `y`: 0 to 99")
    private static void p03_y_is_0_to_99() {
        Check.range(ONE, Check.ARGUMENT, 0, 99, (land, y) -> land.move(0, 1, y, 0));
        NameLand land = Check.land(ONE);
        land.move(0, 99, 0, 1);
        Check.due("the lowest", land.of(0, 2, 1, 0), 0);
        land.move(0, 0, 99, 2);
        Check.due("the highest", land.of(0, 2, 2, 0), 99);
    }

    @Says(promise = 3, words = "- `day`: 0 to 9999: from which day on")
    private static void p03_day_is_0_to_9999() {
        Check.range(ONE, Check.ARGUMENT, 0, 9999, (land, day) -> land.move(0, 1, 1, day));
        NameLand land = Check.land(ONE);
        land.move(0, 1, 2, 9999);
        Check.due("ahead of the last day", land.of(0, 1, 9998, 0), 50);
        Check.due("on the last day", land.of(0, 1, 9999, 0), 1);
        land.move(0, 3, 4, 0);
        Check.due("on the first day", land.of(0, 1, 0, 0), 3);
    }

    @Says(promise = 3, words = "- `day`: 0 to 9999: from which day on")
    private static void p03_a_place_holds_from_its_day_on() {
        NameLand land = Check.land(ONE);
        land.move(0, 10, 20, 5);
        Check.due("the day ahead", land.of(0, 1, 4, 0), 50);
        Check.due("the day ahead, second number", land.of(0, 2, 4, 0), 50);
        Check.due("the day", land.of(0, 1, 5, 0), 10);
        Check.due("the day, second number", land.of(0, 2, 5, 0), 20);
        Check.due("the last day", land.of(0, 1, 9999, 0), 10);
    }

    @Says(promise = 3, words = "Throws `IllegalStateException` if 40 places were told of it")
    private static void p03_40_places_of_a_feature() {
        NameLand land = Check.land(THREE);
        // The place that was told with the feature is the first one.
        for (int i = 2; i <= 39; i++) {
            land.move(1, i, i, i);
        }
        land.move(1, 77, 78, 40);
        Check.due("the 40th place counts", land.of(1, 1, 40, 0), 77);
        Check.fails("a 41st place", Check.STATE, () -> land.move(1, 0, 0, 0));
        Check.fails("a 41st place, the same again", Check.STATE, () -> land.move(1, 77, 78, 40));
        Check.due("all are kept", land.of(1, 1, 2, 0), 2);
    }

    @Says(promise = 3, words = "Throws `IllegalStateException` if 40 places were told of it")
    private static void p03_40_places_of_each_feature() {
        NameLand land = Check.land(THREE);
        for (int i = 0; i < 39 * 3; i++) {
            land.move(i % 3, 5, 5, i);
        }
        for (int i = 0; i < 3; i++) {
            int feature = i;
            Check.fails("a 41st place of " + i, Check.STATE, () -> land.move(feature, 5, 5, 0));
        }
        Check.due("a new feature", land.feature(0, 0, 0), 3);
        land.move(3, 6, 6, 0);
        Check.due("a place of a new feature", land.of(3, 1, 0, 0), 6);
    }

    private static final Recipe ALL_PLACES = land -> {
        features(land, 2);
        for (int i = 1; i < 40; i++) {
            land.move(0, i, i, i);
        }
    };

    @Says(promise = 3, words = "Throws `IllegalStateException` if 40 places were told of it")
    private static void p03_a_41st_place_changes_nothing() {
        Check.refuses("a 41st", ALL_PLACES, Check.STATE, land -> land.move(0, 7, 7, 7));
    }

    @Says(promise = 3, words = "Throws `IllegalArgumentException` if x, y or day is out of range")
    private static void p03_the_argument_goes_ahead_of_a_41st_place() {
        Check.refuses("x", ALL_PLACES, Check.ARGUMENT, land -> land.move(0, 100, 7, 7));
        Check.refuses("y", ALL_PLACES, Check.ARGUMENT, land -> land.move(0, 7, -1, 7));
        Check.refuses("day", ALL_PLACES, Check.ARGUMENT, land -> land.move(0, 7, 7, 10000));
        Check.refuses("no feature", ALL_PLACES, Check.INDEX, land -> land.move(2, 100, -1, 10000));
    }

    @Says(promise = 3, words = "Throws `IllegalArgumentException` if x, y or day is out of range")
    private static void p03_a_refused_place_does_not_count() {
        NameLand land = Check.land(ONE);
        for (int i = 0; i < 40; i++) {
            Check.fails("x", Check.ARGUMENT, () -> land.move(0, -1, 0, 0));
            Check.fails("y", Check.ARGUMENT, () -> land.move(0, 0, 100, 0));
            Check.fails("day", Check.ARGUMENT, () -> land.move(0, 0, 0, -1));
            Check.fails("feature", Check.INDEX, () -> land.move(1, 0, 0, 0));
        }
        for (int i = 1; i < 40; i++) {
            land.move(0, i, i, i);
        }
        Check.due("the 40th", land.of(0, 1, 39, 0), 39);
    }

    @Says(promise = 0, words = "what was told for the latest day, of several what was told last.")
    private static void p03_the_latest_day_counts() {
        NameLand land = Check.land(ONE);
        land.move(0, 1, 1, 20);
        land.move(0, 2, 2, 10);
        Check.due("the day asked is the earlier one", land.of(0, 1, 10, 0), 2);
        Check.due("the day ahead of the later one", land.of(0, 1, 19, 0), 2);
        Check.due("the later one, though told first", land.of(0, 1, 20, 0), 1);
    }

    @Says(promise = 0, words = "what was told for the latest day, of several what was told last.")
    private static void p03_of_one_day_the_last_told_counts() {
        NameLand land = Check.land(ONE);
        land.move(0, 1, 2, 10);
        land.move(0, 3, 4, 10);
        Check.due("of two", land.of(0, 1, 10, 0), 3);
        Check.due("of two, second number", land.of(0, 2, 10, 0), 4);
        land.move(0, 1, 2, 10);
        Check.due("of three", land.of(0, 1, 10, 0), 1);
        land.move(0, 8, 9, 0);
        Check.due("also with the day of the feature itself", land.of(0, 1, 0, 0), 8);
    }

    @Says(promise = 0, words = "all that is told is known from the present day on")
    private static void p03_a_place_is_known_from_the_present_day_on() {
        NameLand land = Check.land(ONE);
        land.pass(5);
        land.move(0, 1, 2, 3);
        Check.due("known the day ahead", land.of(0, 1, 3, 4), 50);
        Check.due("known on the day", land.of(0, 1, 3, 5), 1);
        Check.due("known on the last day", land.of(0, 2, 3, 9999), 2);
        land.pass(1);
        land.move(0, 6, 6, 3);
        Check.due("of one day, known the day ahead", land.of(0, 1, 3, 5), 1);
        Check.due("of one day, known on the day", land.of(0, 1, 3, 6), 6);
    }

    @Says(promise = 0, words = "Nothing that was told is deleted.")
    private static void p03_no_place_is_deleted() {
        NameLand land = Check.land(ONE);
        for (int i = 1; i < 40; i++) {
            land.pass(1);
            land.move(0, i, 99 - i, 0);
        }
        for (int i = 1; i < 40; i++) {
            Check.due("known on day " + i, land.of(0, 1, 0, i), i);
            Check.due("known on day " + i + ", second number", land.of(0, 2, 9999, i), 99 - i);
        }
        Check.due("known on day 0", land.of(0, 1, 0, 0), 50);
    }

    @Says(promise = 0, words = "A feature is there from the day on on which it was told itself, "
        + "also if places of earlier days are told of it, until ahead of the day of its end.")
    private static void p03_places_of_earlier_days_do_not_make_it_there() {
        NameLand land = new NameLand();
        land.pass(10);
        land.feature(0, 3, 4);
        land.move(0, 1, 2, 5);
        Check.due("ahead of that place none", land.of(0, 1, 4, 10), -1);
        Check.due("the place of the earlier day", land.of(0, 1, 5, 10), 1);
        Check.due("the place until ahead of its own day", land.of(0, 2, 9, 10), 2);
        Check.due("its own place", land.of(0, 1, 10, 10), 3);
        Check.due("not there by that", land.of(0, 0, 9, 10), 0);
        Check.due("there from its own day", land.of(0, 0, 10, 10), 1);
    }

    // ---- promise 4

    @Says(promise = 4, words = "- `feature`: a feature")
    private static void p04_feature_exists() {
        Check.range(THREE, Check.INDEX, 0, 2, (land, feature) -> land.part(feature, -1, 0));
    }

    @Says(promise = 4, words = "- `whole`: a feature with a lower number, or -1 for nothing")
    private static void p04_whole_is_lower_or_nothing() {
        Check.takes("nothing", THREE, land -> land.part(2, -1, 0));
        Check.takes("the lowest", THREE, land -> land.part(2, 0, 0));
        Check.takes("the next lower", THREE, land -> land.part(2, 1, 0));
        Check.refuses("itself", THREE, Check.ARGUMENT, land -> land.part(2, 2, 0));
        Check.refuses("the first itself", THREE, Check.ARGUMENT, land -> land.part(0, 0, 0));
        Check.refuses("the next higher", THREE, Check.ARGUMENT, land -> land.part(1, 2, 0));
        Check.refuses("the last for the first", THREE, Check.ARGUMENT, land -> land.part(0, 2, 0));
    }

    @Says(promise = 4, words = "Throws `IndexOutOfBoundsException` if there is no such feature, of either")
    private static void p04_whole_exists() {
        int[] none = {-2, 3, 24, Integer.MIN_VALUE, Integer.MAX_VALUE};
        for (int whole : none) {
            Check.refuses("whole " + whole, THREE, Check.INDEX, land -> land.part(1, whole, 0));
            Check.refuses("whole " + whole + ", day out of range", THREE, Check.INDEX, land -> land.part(1, whole, -1));
        }
    }

    @Says(promise = 4, words = "- `day`: 0 to 9999: from which day on")
    private static void p04_day_is_0_to_9999() {
        Check.range(THREE, Check.ARGUMENT, 0, 9999, (land, day) -> land.part(2, 1, day));
        NameLand land = Check.land(THREE);
        land.part(2, 1, 9999);
        Check.due("ahead of the last day", land.of(2, 3, 9998, 0), -1);
        Check.due("on the last day", land.of(2, 3, 9999, 0), 1);
        land.part(2, 0, 0);
        Check.due("on the first day", land.of(2, 3, 0, 0), 0);
    }

    @Says(promise = 4, words = "- `day`: 0 to 9999: from which day on")
    private static void p04_a_whole_holds_from_its_day_on() {
        NameLand land = Check.land(THREE);
        land.part(2, 1, 10);
        land.part(2, -1, 20);
        Check.due("the day ahead", land.of(2, 3, 9, 0), -1);
        Check.due("the day", land.of(2, 3, 10, 0), 1);
        Check.due("the day ahead of the next", land.of(2, 3, 19, 0), 1);
        Check.due("nothing from the next day on", land.of(2, 3, 20, 0), -1);
        land.part(2, 0, 20);
        Check.due("of one day the last told", land.of(2, 3, 20, 0), 0);
        land.part(2, 0, 15);
        Check.due("an earlier day does not matter then", land.of(2, 3, 14, 0), 1);
    }

    @Says(promise = 4, words = "Throws `IllegalStateException` if that was told of it 40 times")
    private static void p04_40_times_of_a_feature() {
        NameLand land = Check.land(THREE);
        for (int i = 1; i <= 39; i++) {
            land.part(2, i % 2 - 1, i);
        }
        land.part(2, 1, 40);
        Check.due("the 40th counts", land.of(2, 3, 40, 0), 1);
        Check.fails("a 41st", Check.STATE, () -> land.part(2, 0, 0));
        Check.fails("a 41st, nothing", Check.STATE, () -> land.part(2, -1, 41));
        Check.due("all are kept", land.of(2, 3, 39, 0), 0);
    }

    @Says(promise = 4, words = "Throws `IllegalStateException` if that was told of it 40 times")
    private static void p04_40_times_of_each_feature() {
        NameLand land = Check.land(THREE);
        for (int i = 0; i < 40 * 3; i++) {
            land.part(i % 3, -1, i);
        }
        for (int i = 0; i < 3; i++) {
            int feature = i;
            Check.fails("a 41st of " + i, Check.STATE, () -> land.part(feature, -1, 0));
            land.move(feature, 1, 1, 0);
        }
    }

    private static final Recipe ALL_WHOLES = land -> {
        features(land, 3);
        for (int i = 0; i < 40; i++) {
            land.part(1, i % 2 - 1, i);
        }
    };

    @Says(promise = 4, words = "Throws `IllegalStateException` if that was told of it 40 times")
    private static void p04_a_41st_time_changes_nothing() {
        Check.refuses("a 41st", ALL_WHOLES, Check.STATE, land -> land.part(1, 0, 7));
    }

    @Says(promise = 4, words = "Throws `IllegalArgumentException` if whole is not lower, or day is out of range")
    private static void p04_the_argument_goes_ahead_of_a_41st_time() {
        Check.refuses("itself", ALL_WHOLES, Check.ARGUMENT, land -> land.part(1, 1, 7));
        Check.refuses("higher", ALL_WHOLES, Check.ARGUMENT, land -> land.part(1, 2, 7));
        Check.refuses("day", ALL_WHOLES, Check.ARGUMENT, land -> land.part(1, 0, 10000));
        Check.refuses("no whole", ALL_WHOLES, Check.INDEX, land -> land.part(1, 3, 10000));
        Check.refuses("no feature", ALL_WHOLES, Check.INDEX, land -> land.part(3, 3, 7));
    }

    @Says(promise = 4, words = "Throws `IllegalArgumentException` if whole is not lower, or day is out of range")
    private static void p04_a_refused_time_does_not_count() {
        NameLand land = Check.land(THREE);
        for (int i = 0; i < 40; i++) {
            Check.fails("higher", Check.ARGUMENT, () -> land.part(1, 2, 0));
            Check.fails("day", Check.ARGUMENT, () -> land.part(1, 0, -1));
            Check.fails("whole", Check.INDEX, () -> land.part(1, -2, 0));
        }
        for (int i = 0; i < 40; i++) {
            land.part(1, 0, i);
        }
        Check.due("the 40th", land.of(1, 3, 39, 0), 0);
    }

    @Says(promise = 0, words = "all that is told is known from the present day on")
    private static void p04_a_whole_is_known_from_the_present_day_on() {
        NameLand land = Check.land(THREE);
        land.pass(5);
        land.part(2, 1, 0);
        Check.due("known the day ahead", land.of(2, 3, 0, 4), -1);
        Check.due("known on the day", land.of(2, 3, 0, 5), 1);
        Check.due("known on the last day", land.of(2, 3, 9999, 9999), 1);
    }

    @Says(promise = 0, words = "Nothing that was told is deleted.")
    private static void p04_no_whole_is_deleted() {
        NameLand land = Check.land(THREE);
        land.part(2, 1, 0);
        land.pass(1);
        land.part(2, 0, 0);
        land.pass(1);
        land.part(2, -1, 0);
        Check.due("known on day 0", land.of(2, 3, 9, 0), 1);
        Check.due("known on day 1", land.of(2, 3, 9, 1), 0);
        Check.due("known on day 2", land.of(2, 3, 9, 2), -1);
    }

    // ---- promise 5

    @Says(promise = 5, words = "- `feature`: a feature")
    private static void p05_feature_exists() {
        Check.range(THREE, Check.INDEX, 0, 2, (land, feature) -> land.end(feature, -1, 0));
    }

    @Says(promise = 5, words = "- `in`: another feature, or -1")
    private static void p05_in_is_another_or_none() {
        Check.takes("none", THREE, land -> land.end(1, -1, 0));
        Check.takes("a lower one", THREE, land -> land.end(1, 0, 0));
        Check.takes("a higher one", THREE, land -> land.end(1, 2, 0));
        for (int i = 0; i < 3; i++) {
            int feature = i;
            Check.refuses("itself", THREE, Check.ARGUMENT, land -> land.end(feature, feature, 0));
        }
    }

    @Says(promise = 5, words = "Throws `IndexOutOfBoundsException` if there is no such feature, of either")
    private static void p05_in_exists() {
        int[] none = {-2, 3, 24, Integer.MIN_VALUE, Integer.MAX_VALUE};
        for (int in : none) {
            Check.refuses("in " + in, THREE, Check.INDEX, land -> land.end(1, in, 0));
            Check.refuses("in " + in + ", day out of range", THREE, Check.INDEX, land -> land.end(1, in, 10000));
            Check.refuses("both " + in, THREE, Check.INDEX, land -> land.end(in, in, 0));
        }
    }

    @Says(promise = 5, words = "Throws `IndexOutOfBoundsException` if there is no such feature, of either")
    private static void p05_no_feature_goes_ahead_of_both_the_same() {
        Check.refuses("both -1", THREE, Check.INDEX, land -> land.end(-1, -1, 0));
        Check.refuses("both 3", THREE, Check.INDEX, land -> land.end(3, 3, 0));
    }

    @Says(promise = 5, words = "- `day`: 0 to 9999: from which on it is not there")
    private static void p05_day_is_0_to_9999() {
        Check.range(THREE, Check.ARGUMENT, 0, 9999, (land, day) -> land.end(1, 0, day));
        NameLand land = Check.land(THREE);
        land.end(0, 1, 0);
        Check.due("never there", land.of(0, 0, 0, 0), 0);
        Check.due("in what from day 0", land.of(0, 4, 0, 0), 1);
        land.end(1, -1, 9999);
        Check.due("there ahead of the last day", land.of(1, 0, 9998, 0), 1);
        Check.due("not there on the last day", land.of(1, 0, 9999, 0), 0);
    }

    @Says(promise = 5, words = "- `day`: 0 to 9999: from which on it is not there")
    private static void p05_it_is_there_until_ahead_of_the_day() {
        NameLand land = Check.land(THREE);
        land.end(1, 2, 10);
        Check.due("the day ahead", land.of(1, 0, 9, 0), 1);
        Check.due("the day", land.of(1, 0, 10, 0), 0);
        Check.due("the last day", land.of(1, 0, 9999, 0), 0);
        Check.due("in what, the day ahead", land.of(1, 4, 9, 0), -1);
        Check.due("in what, the day", land.of(1, 4, 10, 0), 2);
        Check.due("in what, the last day", land.of(1, 4, 9999, 0), 2);
        Check.due("it keeps its place", land.of(1, 1, 10, 0), 1);
    }

    @Says(promise = 5, words = "Throws `IllegalStateException` if its end was told")
    private static void p05_the_end_is_told_once() {
        Recipe ended = land -> {
            features(land, 3);
            land.end(1, 0, 10);
        };
        Check.refuses("again", ended, Check.STATE, land -> land.end(1, 0, 10));
        Check.refuses("in another one", ended, Check.STATE, land -> land.end(1, 2, 10));
        Check.refuses("in none", ended, Check.STATE, land -> land.end(1, -1, 0));
        Check.takes("of another feature", ended, land -> land.end(0, 1, 10));
        Check.refuses("the same goes ahead", ended, Check.ARGUMENT, land -> land.end(1, 1, 10));
        Check.refuses("the day goes ahead", ended, Check.ARGUMENT, land -> land.end(1, 0, 10000));
        Check.refuses("no feature goes ahead", ended, Check.INDEX, land -> land.end(1, 3, 10000));
    }

    @Says(promise = 5, words = "Tells the end of a feature, once.")
    private static void p05_an_end_in_none_on_day_0_is_told_too() {
        Recipe ended = land -> {
            features(land, 2);
            land.end(0, -1, 0);
        };
        Check.refuses("again", ended, Check.STATE, land -> land.end(0, -1, 0));
        Check.refuses("in another one", ended, Check.STATE, land -> land.end(0, 1, 9999));
        NameLand land = Check.land(ended);
        Check.due("in none", land.of(0, 4, 0, 0), -1);
        Check.due("not there", land.of(0, 0, 0, 0), 0);
    }

    @Says(promise = 5, words = "Throws `IllegalArgumentException` if both are the same, or day is out of range")
    private static void p05_a_refused_end_is_not_told() {
        NameLand land = Check.land(THREE);
        Check.fails("the same", Check.ARGUMENT, () -> land.end(1, 1, 5));
        Check.fails("the day", Check.ARGUMENT, () -> land.end(1, 0, -1));
        Check.fails("no in", Check.INDEX, () -> land.end(1, 3, 5));
        Check.due("it is there", land.of(1, 0, 9999, 0), 1);
        land.end(1, 0, 5);
        Check.due("now it is not", land.of(1, 0, 5, 0), 0);
    }

    @Says(promise = 0, words = "all that is told is known from the present day on")
    private static void p05_an_end_is_known_from_the_present_day_on() {
        NameLand land = Check.land(THREE);
        land.pass(5);
        land.end(1, 0, 3);
        Check.due("there, known the day ahead", land.of(1, 0, 3, 4), 1);
        Check.due("not there, known on the day", land.of(1, 0, 3, 5), 0);
        Check.due("in what, known the day ahead", land.of(1, 4, 3, 4), -1);
        Check.due("in what, known on the day", land.of(1, 4, 3, 5), 0);
        Check.due("in what, known on the last day", land.of(1, 4, 9999, 9999), 0);
    }

    @Says(promise = 0, words = "A feature is there from the day on on which it was told itself, "
        + "also if places of earlier days are told of it, until ahead of the day of its end.")
    private static void p05_an_end_ahead_of_the_day_of_the_feature() {
        NameLand land = new NameLand();
        land.pass(10);
        land.feature(0, 1, 1);
        land.end(0, -1, 4);
        Check.due("not there ahead", land.of(0, 0, 3, 10), 0);
        Check.due("not there on its day", land.of(0, 0, 10, 10), 0);
    }

    // ---- promise 6

    @Says(promise = 6, words = "- `feature`: a feature")
    private static void p06_feature_exists() {
        Check.range(THREE, Check.INDEX, 0, 2, (land, feature) -> land.of(feature, 0, 0, 0));
    }

    @Says(promise = 6, words = "- `what`: 0 1 if it is there, 0 if not, 1 and 2 both numbers of its place, "
        + "3 of what it is a part, 4 in what it has ended; -1 if there is none, or that day is not come yet")
    private static void p06_what_is_0_to_4() {
        Check.range(THREE, Check.ARGUMENT, 0, 4, (land, what) -> land.of(1, what, 0, 0));
        NameLand land = Check.land(THREE);
        land.part(2, 1, 0);
        land.end(2, 0, 9);
        int[] want = {0, 2, 88, 1, 0};
        for (int what = 0; what < 5; what++) {
            Check.due("what " + what, land.of(2, what, 9, 0), want[what]);
        }
    }

    @Says(promise = 6, words = "- `what`: 0 1 if it is there, 0 if not, 1 and 2 both numbers of its place, "
        + "3 of what it is a part, 4 in what it has ended; -1 if there is none, or that day is not come yet")
    private static void p06_what_there_is_not() {
        NameLand land = new NameLand();
        land.pass(3);
        land.feature(0, 1, 1);
        land.feature(0, 2, 2);
        Check.due("no place yet", land.of(1, 1, 2, 3), -1);
        Check.due("no second number yet", land.of(1, 2, 2, 3), -1);
        Check.due("a part of nothing", land.of(1, 3, 9999, 9999), -1);
        Check.due("no end", land.of(1, 4, 9999, 9999), -1);
        land.end(1, 0, 9);
        Check.due("that day is not come yet", land.of(1, 4, 8, 9999), -1);
        Check.due("that day is come", land.of(1, 4, 9, 9999), 0);
        land.part(1, 0, 5);
        land.part(1, -1, 7);
        Check.due("a part of something", land.of(1, 3, 6, 3), 0);
        Check.due("a part of nothing again", land.of(1, 3, 7, 3), -1);
    }

    @Says(promise = 6, words = "- `day`: 0 to 9999")
    private static void p06_day_is_0_to_9999() {
        for (int i = 0; i <= 4; i++) {
            int what = i;
            Check.range(THREE, Check.ARGUMENT, 0, 9999, (land, day) -> land.of(1, what, day, 0));
        }
        NameLand land = Check.land(THREE);
        Check.due("on the first day", land.of(1, 2, 0, 0), 89);
        Check.due("on the last day", land.of(1, 2, 9999, 0), 89);
    }

    @Says(promise = 6, words = "- `known`: 0 to 9999")
    private static void p06_known_is_0_to_9999() {
        for (int i = 0; i <= 4; i++) {
            int what = i;
            Check.range(THREE, Check.ARGUMENT, 0, 9999, (land, known) -> land.of(1, what, 0, known));
        }
        NameLand land = Check.land(THREE);
        Check.due("known on the first day", land.of(1, 2, 0, 0), 89);
        Check.due("known on the last day", land.of(1, 2, 0, 9999), 89);
    }

    @Says(promise = 6, words = "Throws `IndexOutOfBoundsException` if there is no such feature")
    private static void p06_no_feature_goes_ahead_of_the_arguments() {
        Check.refuses("all wrong", THREE, Check.INDEX, land -> land.of(3, 5, -1, 10000));
        Check.refuses("what", THREE, Check.INDEX, land -> land.of(-1, -1, 0, 0));
        Check.refuses("known", THREE, Check.INDEX, land -> land.of(3, 0, 0, -1));
    }

    @Says(promise = 6, words = "Throws `IllegalArgumentException` if what, day or known is out of range")
    private static void p06_each_argument_alone() {
        Check.refuses("what", THREE, Check.ARGUMENT, land -> land.of(0, 5, 0, 0));
        Check.refuses("day", THREE, Check.ARGUMENT, land -> land.of(0, 0, 10000, 0));
        Check.refuses("known", THREE, Check.ARGUMENT, land -> land.of(0, 0, 0, 10000));
        Check.refuses("all", THREE, Check.ARGUMENT, land -> land.of(0, -1, -1, -1));
    }

    @Says(promise = 0, words = "of what was told for that day or an earlier one, and on a day at most that on which it "
        + "was to be known, what was told for the latest day, of several what was told last.")
    private static void p06_what_was_known_and_what_held() {
        NameLand land = Check.land(ONE);
        land.pass(10);
        land.move(0, 1, 1, 30);
        land.pass(10);
        land.move(0, 2, 2, 25);
        land.pass(10);
        land.move(0, 3, 3, 25);
        int[][] want = {{24, 9999, 50}, {25, 9, 50}, {25, 19, 50}, {25, 20, 2}, {25, 29, 2}, {25, 30, 3},
            {29, 30, 3}, {30, 9, 50}, {30, 10, 1}, {30, 30, 1}, {9999, 9999, 1}, {9999, 0, 50}};
        for (int[] asked : want) {
            Check.due("day " + asked[0] + ", known " + asked[1], land.of(0, 1, asked[0], asked[1]), asked[2]);
        }
    }

    @Says(promise = 6, words = "Returns something of a feature.")
    private static void p06_asking_changes_nothing() {
        NameLand land = Check.land(THREE);
        for (int i = 0; i < 400; i++) {
            Check.due("asked again", land.of(2, 1, 0, 0), 2);
        }
    }
}
