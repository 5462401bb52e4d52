/** Promises 30 to 35, a test for each sentence that names a boundary: pull, copy, order, budget, sign, pass. */
public final class SignEdgesTest {
    private static final Recipe TWO = land -> {
        land.feature(0, 10, 20);
        land.feature(1, 30, 40);
        land.name(0, 0, 1, 0);
        land.pass(5);
    };
    private static final Recipe ORDERED = land -> {
        TWO.make(land);
        land.order(1);
    };
    private static final Recipe ALL_FEATURES = land -> {
        for (int i = 0; i < 24; i++) {
            land.feature(0, i, i);
            land.name(i, 0, 1 + i, 0);
        }
    };
    private static final Recipe LAST_DAY = land -> {
        land.feature(0, 1, 1);
        toDay(land, 9999);
    };

    public static void main(String[] args) {
        Edges.run(SignEdgesTest.class);
    }

    /** From day 0. */
    private static void toDay(NameLand land, int day) {
        for (int i = 0; i < day / 400; i++) {
            land.pass(400);
        }
        if (day % 400 != 0) {
            land.pass(day % 400);
        }
    }

    private static Recipe onDay(int day) {
        return land -> {
            land.feature(0, 1, 1);
            toDay(land, day);
        };
    }

    // ---- promise 30

    @Says(promise = 30, words = "- `subscriber`: 0 to 3")
    private static void p30_subscriber_is_0_to_3() {
        Check.range(TWO, Check.INDEX, 0, 3, NameLand::pull);
    }

    @Says(promise = 30, words = "Throws `IndexOutOfBoundsException` if there is no such subscriber")
    private static void p30_no_such_subscriber_of_a_new_land() {
        Check.refuses("4", land -> { }, Check.INDEX, land -> land.pull(4));
        Check.refuses("-1", land -> { }, Check.INDEX, land -> land.pull(-1));
    }

    @Says(promise = 30, words = "Returns how many days it was behind.")
    private static void p30_how_many_days_it_was_behind() {
        NameLand land = new NameLand();
        Check.due("day 0", land.pull(0), 0);
        land.pass(1);
        Check.due("a day", land.pull(0), 1);
        Check.due("no day", land.pull(0), 0);
        land.pass(400);
        Check.due("many days", land.pull(0), 400);
        Check.due("another one, from day 0 on", land.pull(3), 401);
        Check.due("all days", Check.land(LAST_DAY).pull(2), 9999);
    }

    // ---- promise 31

    @Says(promise = 31, words = "- `subscriber`: 0 to 3")
    private static void p31_subscriber_is_0_to_3() {
        Check.range(TWO, Check.INDEX, 0, 3, (land, subscriber) -> land.copy(subscriber, 0, 0));
    }

    @Says(promise = 31, words = "- `feature`: a feature")
    private static void p31_feature_exists() {
        Check.range(TWO, Check.INDEX, 0, 1, (land, feature) -> land.copy(0, feature, 0));
    }

    @Says(promise = 31, words = "- `tongue`: 0 to 3")
    private static void p31_tongue_is_0_to_3() {
        Check.range(TWO, Check.INDEX, 0, 3, (land, tongue) -> land.copy(0, 0, tongue));
    }

    @Says(promise = 31, words = "Throws `IndexOutOfBoundsException` if there is no such subscriber, feature or tongue")
    private static void p31_all_three_at_once() {
        Check.refuses("all", TWO, Check.INDEX, land -> land.copy(4, 2, 4));
        Check.refuses("all -1", TWO, Check.INDEX, land -> land.copy(-1, -1, -1));
    }

    @Says(promise = 31, words = "Returns the word; 0 if there is none.")
    private static void p31_without_a_form_it_is_0() {
        NameLand land = Check.land(TWO);
        Check.due("a name", land.copy(0, 0, 0), 1);
        Check.due("in another tongue", land.copy(0, 0, 3), 0);
        Check.due("of another feature", land.copy(0, 1, 0), 0);
        land.name(1, 0, 2, 0);
        Check.due("a name that is not known to it", land.copy(0, 1, 0), 0);
    }

    @Says(promise = 0, words = "The subscribers 0 to 3 have copies: all as it was known on some day, 0 at first.")
    private static void p31_all_as_it_was_known_on_day_0() {
        NameLand land = new NameLand();
        land.feature(0, 1, 1);
        land.name(0, 0, 1, 0);
        land.name(0, 0, 2, 3);
        land.pass(1);
        land.name(0, 0, 3, 0);
        land.name(0, 1, 4, 0);
        for (int subscriber = 0; subscriber < 4; subscriber++) {
            Check.due("told on day 0", land.copy(subscriber, 0, 0), 1);
            Check.due("told on day 1", land.copy(subscriber, 0, 1), 0);
        }
        land.pull(1);
        Check.due("brought up", land.copy(1, 0, 0), 3);
        Check.due("brought up, the other tongue", land.copy(1, 0, 1), 4);
        Check.due("not brought up", land.copy(2, 0, 1), 0);
    }

    @Says(promise = 31, words = "Returns a FORM of the present day by the copy of a subscriber.")
    private static void p31_of_the_present_day() {
        NameLand land = new NameLand();
        land.feature(0, 1, 1);
        land.name(0, 0, 1, 0);
        land.name(0, 0, 2, 3);
        land.law(0, 5, 2, 4, 0);
        land.pass(2);
        Check.due("ahead of the name", land.copy(0, 0, 0), 1);
        land.pass(1);
        Check.due("from the name on", land.copy(0, 0, 0), 2);
        land.pass(2);
        Check.due("from the law on", land.copy(0, 0, 0), 4);
    }

    @Says(promise = 31, words = "Returns a FORM of the present day by the copy of a subscriber.")
    private static void p31_a_reversal_behind_the_copy() {
        NameLand land = new NameLand();
        land.feature(0, 1, 1);
        land.petition(0, 0, 7, 30);
        for (int i = 0; i < 5; i++) {
            land.vote(0, i, true);
        }
        land.pass(1);
        land.decide(0);
        land.pull(0);
        land.pass(29);
        land.appeal(0);
        Check.due("known to be decided", land.copy(0, 0, 0), 7);
        Check.due("known neither", land.copy(1, 0, 0), 0);
        land.pull(0);
        Check.due("known to be reversed", land.copy(0, 0, 0), 0);
    }

    @Says(promise = 0, words = "all that is told is known from the present day on")
    private static void p31_told_later_on_the_day_of_the_pull() {
        NameLand land = Check.land(TWO);
        land.pull(0);
        land.name(0, 2, 9, 0);
        Check.due("known on that day", land.copy(0, 0, 2), 9);
        land.pass(1);
        land.name(0, 3, 9, 0);
        Check.due("known the day behind", land.copy(0, 0, 3), 0);
    }

    // ---- promise 32

    @Says(promise = 32, words = "- `feature`: a feature")
    private static void p32_feature_exists() {
        Check.range(TWO, Check.INDEX, 0, 1, NameLand::order);
    }

    @Says(promise = 32, words = "Throws `IndexOutOfBoundsException` if there is no such feature")
    private static void p32_no_features_at_all() {
        Check.refuses("feature 0", land -> { }, Check.INDEX, land -> land.order(0));
        Check.refuses("ahead of one that waits", ORDERED, Check.INDEX, land -> land.order(2));
    }

    @Says(promise = 32, words = "Throws `IllegalStateException` if one waits for it")
    private static void p32_each_feature_once() {
        Check.refuses("again", ORDERED, Check.STATE, land -> land.order(1));
        Check.takes("another one", ORDERED, land -> land.order(0));
        NameLand land = Check.land(ORDERED);
        land.pass(1);
        Check.due("again behind it", land.order(1), 1);
        land.budget(0);
        land.pass(400);
        Check.fails("it waits still", Check.STATE, () -> land.order(1));
    }

    @Says(promise = 32, words = "Returns how many orders wait then.")
    private static void p32_1_to_24_orders() {
        NameLand land = Check.land(ALL_FEATURES);
        for (int i = 0; i < 24; i++) {
            Check.due("how many", land.order(23 - i), i + 1);
        }
        for (int i = 0; i < 24; i++) {
            int feature = i;
            Check.fails("a 25th", Check.STATE, () -> land.order(feature));
        }
        land.pass(1);
        Check.due("two are replaced", land.order(23), 23);
    }

    // ---- promise 33

    @Says(promise = 33, words = "- `signs`: 0 to 10: for each day")
    private static void p33_signs_are_0_to_10() {
        Check.range(ORDERED, Check.ARGUMENT, 0, 10, NameLand::budget);
        for (int budget = 0; budget <= 10; budget++) {
            NameLand land = Check.land(ALL_FEATURES);
            for (int i = 0; i < 24; i++) {
                land.order(i);
            }
            land.budget(budget);
            land.pass(1);
            int replaced = 0;
            for (int i = 0; i < 24; i++) {
                replaced += land.sign(i) != 0 ? 1 : 0;
            }
            Check.due("replaced with " + budget, replaced, budget);
        }
    }

    @Says(promise = 33, words = "Returns what it was.")
    private static void p33_what_it_was() {
        NameLand land = new NameLand();
        Check.due("at first", land.budget(10), 2);
        Check.due("the highest", land.budget(0), 10);
        Check.due("the lowest", land.budget(0), 0);
        Check.due("the same", land.budget(3), 0);
    }

    @Says(promise = 33, words = "Throws `IllegalArgumentException` if signs is out of range")
    private static void p33_a_refused_budget_is_not_set() {
        NameLand land = new NameLand();
        Check.fails("11", Check.ARGUMENT, () -> land.budget(11));
        Check.fails("-1", Check.ARGUMENT, () -> land.budget(-1));
        Check.due("what it was", land.budget(2), 2);
    }

    @Says(promise = 0, words = "as many as the budget, 2 at first, are replaced")
    private static void p33_2_at_first() {
        NameLand land = Check.land(ALL_FEATURES);
        for (int i = 0; i < 5; i++) {
            land.order(i);
        }
        land.pass(1);
        Check.due("the second", land.sign(1), 2);
        Check.due("the third waits", land.sign(2), 0);
        land.pass(1);
        Check.due("the fourth", land.sign(3), 4);
        Check.due("the fifth waits", land.sign(4), 0);
        land.pass(1);
        Check.due("the fifth", land.sign(4), 5);
    }

    @Says(promise = 33, words = "- `signs`: 0 to 10: for each day")
    private static void p33_what_is_left_of_a_day_is_not_kept() {
        NameLand land = Check.land(ALL_FEATURES);
        land.order(0);
        land.pass(10);
        for (int i = 1; i < 6; i++) {
            land.order(i);
        }
        land.pass(1);
        Check.due("two of that day", land.sign(2), 3);
        Check.due("not a third", land.sign(3), 0);
    }

    // ---- promise 34

    @Says(promise = 34, words = "- `feature`: a feature")
    private static void p34_feature_exists() {
        Check.range(ORDERED, Check.INDEX, 0, 1, NameLand::sign);
    }

    @Says(promise = 34, words = "Throws `IndexOutOfBoundsException` if there is no such feature")
    private static void p34_no_features_at_all() {
        Check.refuses("feature 0", land -> { }, Check.INDEX, land -> land.sign(0));
        Check.refuses("feature 24", ALL_FEATURES, Check.INDEX, land -> land.sign(24));
    }

    @Says(promise = 0, words = "The sign of a feature shows a word, 0 at first.")
    private static void p34_0_at_first() {
        NameLand land = Check.land(ALL_FEATURES);
        land.pass(400);
        for (int i = 0; i < 24; i++) {
            Check.due("not ordered", land.sign(i), 0);
        }
        land.order(0);
        Check.due("ordered, not yet replaced", land.sign(0), 0);
        land.pass(1);
        Check.due("replaced", land.sign(0), 1);
    }

    @Says(promise = 34, words = "Returns the word; 0 for nothing.")
    private static void p34_a_sign_may_show_nothing_again() {
        NameLand land = Check.land(ALL_FEATURES);
        land.order(3);
        land.pass(1);
        Check.due("a word", land.sign(3), 4);
        land.law(0, 0, 4, 0, 0);
        land.dispute(3, 1, 2);
        Check.due("until it is replaced", land.sign(3), 4);
        land.order(3);
        land.pass(1);
        Check.due("nothing", land.sign(3), 0);
    }

    @Says(promise = 0, words = "Orders for signs wait in their order, each feature once")
    private static void p34_in_their_order() {
        NameLand land = Check.land(ALL_FEATURES);
        land.budget(1);
        int[] order = {5, 0, 23, 7};
        for (int feature : order) {
            land.order(feature);
        }
        for (int i = 0; i < order.length; i++) {
            land.pass(1);
            for (int k = 0; k < order.length; k++) {
                Check.due("day " + i + ", sign " + order[k], land.sign(order[k]), k <= i ? order[k] + 1 : 0);
            }
        }
    }

    @Says(promise = 0, words = "Orders for signs wait in their order, each feature once")
    private static void p34_ordered_again_it_waits_behind_the_others() {
        NameLand land = Check.land(ALL_FEATURES);
        land.budget(1);
        land.order(0);
        land.order(1);
        land.pass(1);
        land.name(0, 0, 26, 0);
        land.order(0);
        land.pass(1);
        Check.due("the one that waited", land.sign(1), 2);
        Check.due("not yet again", land.sign(0), 1);
        land.pass(1);
        Check.due("again", land.sign(0), 26);
    }

    @Says(promise = 0, words = "a sign shows what a reader of the tongue 0 sees of the feature on the day that ends.")
    private static void p34_on_the_day_that_ends() {
        NameLand land = new NameLand();
        land.feature(0, 1, 1);
        for (int day = 0; day < 5; day++) {
            land.name(0, 0, 10 + day, day);
        }
        land.order(0);
        land.pass(1);
        Check.due("day 0", land.sign(0), 10);
        land.order(0);
        land.pass(3);
        Check.due("day 1, of three days", land.sign(0), 11);
        land.order(0);
        land.pass(1);
        Check.due("day 4", land.sign(0), 14);
    }

    @Says(promise = 0, words = "a sign shows what a reader of the tongue 0 sees of the feature on the day that ends.")
    private static void p34_what_a_reader_of_the_tongue_0_sees() {
        NameLand land = new NameLand();
        for (int i = 0; i < 4; i++) {
            land.feature(0, 1, 1);
        }
        land.name(0, 3, 4, 0);
        land.name(1, 0, 1, 0);
        land.name(1, 1, 2, 0);
        land.name(2, 0, 1, 0);
        land.name(2, 1, 2, 0);
        land.name(2, 2, 3, 0);
        land.dispute(2, 2, 1);
        land.name(3, 0, 1, 0);
        land.name(3, 3, 4, 0);
        land.dispute(3, 3, 0);
        land.budget(4);
        for (int i = 0; i < 4; i++) {
            land.order(i);
        }
        land.pass(1);
        int[] want = {4, 1, 2, 1};
        for (int i = 0; i < 4; i++) {
            Check.due("feature " + i, land.sign(i), want[i]);
        }
    }

    @Says(promise = 0, words = "at the end of each day, ahead of the next one, as many as the budget, 2 at first, are replaced")
    private static void p34_orders_of_all_days_that_pass() {
        NameLand land = Check.land(ALL_FEATURES);
        for (int i = 0; i < 24; i++) {
            land.order(i);
            land.name(i, 0, 26, 5);
        }
        land.pass(12);
        for (int i = 0; i < 24; i++) {
            Check.due("sign " + i, land.sign(i), i / 2 < 5 ? i + 1 : 26);
        }
        Check.due("none wait", land.order(0), 1);
    }

    // ---- promise 35

    @Says(promise = 35, words = "- `days`: 1 to 400")
    private static void p35_days_are_1_to_400() {
        Check.range(ORDERED, Check.ARGUMENT, 1, 400, NameLand::pass);
        NameLand land = new NameLand();
        Check.due("the lowest", land.pass(1), 1);
        Check.due("the highest", land.pass(400), 401);
    }

    @Says(promise = 35, words = "Throws `IllegalStateException` if it would be above 9999")
    private static void p35_it_is_at_most_9999() {
        NameLand land = Check.land(onDay(9599));
        Check.due("400 days", land.pass(400), 9999);
        Check.refuses("400 days from 9600", onDay(9600), Check.STATE, made -> made.pass(400));
        Check.takes("399 days from 9600", onDay(9600), made -> made.pass(399));
        Check.takes("a day from 9998", onDay(9998), made -> made.pass(1));
        Check.refuses("two days from 9998", onDay(9998), Check.STATE, made -> made.pass(2));
        Check.refuses("a day from 9999", LAST_DAY, Check.STATE, made -> made.pass(1));
        Check.refuses("400 days from 9999", LAST_DAY, Check.STATE, made -> made.pass(400));
    }

    @Says(promise = 35, words = "Throws `IllegalArgumentException` if days is out of range")
    private static void p35_the_argument_goes_ahead_of_the_last_day() {
        Check.refuses("0", LAST_DAY, Check.ARGUMENT, land -> land.pass(0));
        Check.refuses("-1", LAST_DAY, Check.ARGUMENT, land -> land.pass(-1));
        Check.refuses("401", LAST_DAY, Check.ARGUMENT, land -> land.pass(401));
        Check.refuses("the highest number", LAST_DAY, Check.ARGUMENT, land -> land.pass(Integer.MAX_VALUE));
    }

    @Says(promise = 35, words = "Throws `IllegalStateException` if it would be above 9999")
    private static void p35_a_refused_pass_replaces_no_sign() {
        Recipe recipe = land -> {
            ALL_FEATURES.make(land);
            toDay(land, 9998);
            land.order(0);
        };
        Check.refuses("two days", recipe, Check.STATE, land -> land.pass(2));
        Check.refuses("401 days", recipe, Check.ARGUMENT, land -> land.pass(401));
        NameLand land = Check.land(recipe);
        Check.fails("two days", Check.STATE, () -> land.pass(2));
        Check.due("not replaced", land.sign(0), 0);
        Check.due("a day", land.pass(1), 9999);
        Check.due("replaced", land.sign(0), 1);
    }

    @Says(promise = 0, words = "Days are counted from 0, at most 9999")
    private static void p35_calls_on_the_last_day() {
        NameLand land = Check.land(LAST_DAY);
        land.move(0, 2, 2, 9999);
        land.name(0, 0, 1, 9999);
        land.law(0, 9999, 1, 2, 0);
        Check.due("a place", land.of(0, 1, 9999, 9999), 2);
        Check.due("a name", land.form(0, 0, 9999, 9999), 1);
        Check.due("known the day ahead", land.form(0, 0, 9999, 9998), 0);
        Check.due("displayed", land.display(0, 0), 1);
        Check.due("a feature", land.feature(0, 0, 0), 1);
        Check.due("there on the last day alone", land.of(1, 0, 9998, 9999), 0);
        Check.due("there on the last day", land.of(1, 0, 9999, 9999), 1);
        Check.due("an order waits for ever", land.order(0), 1);
        Check.fails("no petition", Check.ARGUMENT, () -> land.petition(0, 0, 1, 9999));
    }

    @Says(promise = 35, words = "Returns the day then.")
    private static void p35_days_add_up() {
        NameLand land = new NameLand();
        int day = 0;
        for (int days = 1; days <= 140; days++) {
            day += days;
            Check.due("the day", land.pass(days), day);
        }
    }
}
