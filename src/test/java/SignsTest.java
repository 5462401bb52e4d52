/** Promises 30 to 35: pull, copy, order, budget, sign, pass. */
public final class SignsTest {
    public static void main(String[] args) {
        pull();
        copy();
        order();
        budget();
        sign();
        signOfTheDay();
        pass();
        Check.end("SignsTest");
    }

    private static NameLand withFeatures(int count) {
        NameLand land = new NameLand();
        for (int i = 0; i < count; i++) {
            land.feature(0, i, i);
        }
        return land;
    }

    private static void pull() {
        NameLand land = withFeatures(1);
        Check.due("P30 on the day 0", land.pull(0), 0);
        land.pass(7);
        Check.due("P30 7 days", land.pull(0), 7);
        Check.due("P30 again", land.pull(0), 0);
        land.pass(3);
        Check.due("P30 3 days", land.pull(0), 3);
        Check.due("P30 another subscriber", land.pull(3), 10);
        Check.fails("P30 no subscriber 4", Check.INDEX, () -> land.pull(4));
        Check.fails("P30 no subscriber -1", Check.INDEX, () -> land.pull(-1));
    }

    private static void copy() {
        NameLand land = withFeatures(1);
        land.name(0, 0, 1, 0);
        Check.due("P31 told on the day 0", land.copy(0, 0, 0), 1);
        Check.due("P31 no name", land.copy(0, 0, 1), 0);
        land.name(0, 0, 2, 4);
        land.pass(2);
        land.name(0, 0, 3, 3);
        land.law(0, 4, 3, 5, 0);
        Check.due("P31 the present day", land.copy(0, 0, 0), 1);
        land.pull(1);
        land.pass(1);
        Check.due("P31 as it was known on the day 0", land.copy(0, 0, 0), 1);
        Check.due("P31 as it was known on the day 2", land.copy(1, 0, 0), 3);
        land.pass(1);
        Check.due("P31 a name of a later day, known on the day 0", land.copy(0, 0, 0), 2);
        land.name(0, 1, 9, 0);
        Check.due("P31 behind", land.copy(1, 0, 1), 0);
        land.pull(1);
        Check.due("P31 brought up", land.copy(1, 0, 1), 9);
        land.name(0, 2, 8, 0);
        Check.due("P31 told later on the day of the pull", land.copy(1, 0, 2), 8);
        Check.fails("P31 no subscriber 4", Check.INDEX, () -> land.copy(4, 0, 0));
        Check.fails("P31 no subscriber -1", Check.INDEX, () -> land.copy(-1, 0, 0));
        Check.fails("P31 no feature 1", Check.INDEX, () -> land.copy(0, 1, 0));
        Check.fails("P31 no feature -1", Check.INDEX, () -> land.copy(0, -1, 0));
        Check.fails("P31 no tongue 4", Check.INDEX, () -> land.copy(0, 0, 4));
        Check.fails("P31 no tongue -1", Check.INDEX, () -> land.copy(0, 0, -1));
    }

    private static void order() {
        NameLand land = withFeatures(3);
        Check.fails("P32 no feature 3", Check.INDEX, () -> land.order(3));
        Check.fails("P32 no feature -1", Check.INDEX, () -> land.order(-1));
        Check.due("P32 one", land.order(2), 1);
        Check.fails("P32 each once", Check.STATE, () -> land.order(2));
        Check.due("P32 two", land.order(0), 2);
        Check.due("P32 three", land.order(1), 3);
        land.pass(1);
        Check.due("P32 again behind it", land.order(2), 2);
        Check.fails("P32 one waits still", Check.STATE, () -> land.order(1));
        land.pass(1);
        Check.due("P32 none waited", land.order(1), 1);
    }

    private static void budget() {
        NameLand land = withFeatures(12);
        Check.due("P33 2 at first", land.budget(10), 2);
        Check.fails("P33 -1", Check.ARGUMENT, () -> land.budget(-1));
        Check.fails("P33 11", Check.ARGUMENT, () -> land.budget(11));
        for (int i = 0; i < 12; i++) {
            land.order(i);
        }
        land.pass(1);
        Check.due("P33 10 for each day", land.order(0), 3);
        Check.due("P33 what it was", land.budget(0), 10);
        land.pass(400);
        Check.due("P33 none", land.order(1), 4);
        Check.due("P33 none was", land.budget(1), 0);
        land.pass(3);
        Check.due("P33 for each day", land.order(2), 2);
    }

    private static void sign() {
        NameLand land = withFeatures(4);
        for (int i = 0; i < 4; i++) {
            land.name(i, 0, i + 1, 0);
            land.order(3 - i);
        }
        Check.fails("P34 no feature 4", Check.INDEX, () -> land.sign(4));
        Check.fails("P34 no feature -1", Check.INDEX, () -> land.sign(-1));
        Check.due("P34 at first", land.sign(3), 0);
        land.pass(1);
        Check.due("P34 the first order", land.sign(3), 4);
        Check.due("P34 the second order", land.sign(2), 3);
        Check.due("P34 the third order waits", land.sign(1), 0);
        land.pass(1);
        Check.due("P34 the third order", land.sign(1), 2);
        Check.due("P34 the fourth order", land.sign(0), 1);
        land.name(0, 0, 20, 0);
        land.pass(10);
        Check.due("P34 as it was replaced", land.sign(0), 1);
    }

    private static void signOfTheDay() {
        NameLand land = withFeatures(3);
        land.name(0, 0, 1, 0);
        land.name(0, 0, 2, 1);
        land.name(0, 0, 3, 2);
        land.name(1, 3, 4, 0);
        land.order(0);
        land.order(1);
        land.order(2);
        land.pass(1);
        Check.due("P34 of the day that ends", land.sign(0), 1);
        Check.due("P34 what a reader of the tongue 0 sees", land.sign(1), 4);
        land.order(0);
        land.dispute(1, 1, 2);
        land.order(1);
        land.pass(2);
        Check.due("P34 of the first day of two", land.sign(0), 2);
        Check.due("P34 disputed, nothing", land.sign(1), 0);
        land.name(1, 1, 5, 0);
        land.name(1, 2, 6, 0);
        land.name(1, 0, 7, 0);
        land.order(1);
        land.pass(1);
        Check.due("P34 disputed, the lower one", land.sign(1), 5);
        land.dispute(1, 0, 0);
        land.order(1);
        land.pass(1);
        Check.due("P34 the tongue 0", land.sign(1), 7);
        Check.due("P34 without a name", land.sign(2), 0);
        land.end(0, -1, 0);
        land.order(0);
        land.pass(1);
        Check.due("P34 one that has ended", land.sign(0), 3);
    }

    private static void pass() {
        NameLand land = withFeatures(1);
        Check.fails("P35 0", Check.ARGUMENT, () -> land.pass(0));
        Check.fails("P35 -1", Check.ARGUMENT, () -> land.pass(-1));
        Check.fails("P35 401", Check.ARGUMENT, () -> land.pass(401));
        Check.due("P35 1", land.pass(1), 1);
        Check.due("P35 400", land.pass(400), 401);
        for (int i = 0; i < 23; i++) {
            land.pass(400);
        }
        Check.due("P35 9998", land.pass(397), 9998);
        land.order(0);
        land.name(0, 0, 1, 0);
        Check.fails("P35 above 9999", Check.STATE, () -> land.pass(2));
        Check.fails("P35 argument ahead of state", Check.ARGUMENT, () -> land.pass(401));
        Check.due("P35 no sign was replaced", land.sign(0), 0);
        Check.due("P35 the last day", land.pass(1), 9999);
        Check.due("P35 a sign was replaced", land.sign(0), 1);
        Check.fails("P35 behind the last day", Check.STATE, () -> land.pass(1));
        Check.due("P35 a name on the last day", land.name(0, 1, 1, 9999), 2);
        Check.due("P35 known on the last day", land.form(0, 1, 9999, 9999), 1);
        Check.due("P35 not known ahead", land.form(0, 1, 9999, 9998), 0);
        Check.fails("P35 no petition can be told", Check.ARGUMENT, () -> land.petition(0, 0, 1, 9999));
    }
}
