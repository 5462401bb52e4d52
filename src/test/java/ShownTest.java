/** Promises 17 to 20: census, dispute, shown, display. */
public final class ShownTest {
    public static void main(String[] args) {
        census();
        dispute();
        shown();
        shownOnDays();
        display();
        displayDisputed();
        Check.end("ShownTest");
    }

    private static NameLand withFeatures(int count) {
        NameLand land = new NameLand();
        for (int i = 0; i < count; i++) {
            land.feature(0, i, i);
        }
        return land;
    }

    private static void census() {
        NameLand land = withFeatures(2);
        Check.due("P17 0 at first", land.census(0, 3, 100), 0);
        Check.due("P17 what was told", land.census(0, 3, 0), 100);
        Check.due("P17 in place of it", land.census(0, 3, 7), 0);
        Check.due("P17 of that tongue", land.census(0, 2, 7), 0);
        Check.due("P17 of that feature", land.census(1, 3, 8), 0);
        Check.fails("P17 no feature", Check.INDEX, () -> land.census(2, 0, 101));
        Check.fails("P17 no tongue 4", Check.INDEX, () -> land.census(0, 4, 101));
        Check.fails("P17 no tongue -1", Check.INDEX, () -> land.census(0, -1, 0));
        Check.fails("P17 101", Check.ARGUMENT, () -> land.census(0, 0, 101));
        Check.fails("P17 -1", Check.ARGUMENT, () -> land.census(0, 0, -1));
    }

    private static void dispute() {
        NameLand land = withFeatures(1);
        land.name(0, 0, 1, 0);
        land.name(0, 2, 2, 0);
        Check.fails("P18 no feature", Check.INDEX, () -> land.dispute(1, 0, 1));
        Check.fails("P18 no feature -1", Check.INDEX, () -> land.dispute(-1, 0, 1));
        Check.fails("P18 no one 4", Check.INDEX, () -> land.dispute(0, 4, 0));
        Check.fails("P18 no one -1", Check.INDEX, () -> land.dispute(0, -1, 0));
        Check.fails("P18 no other 4", Check.INDEX, () -> land.dispute(0, 0, 4));
        Check.fails("P18 no other -1", Check.INDEX, () -> land.dispute(0, 0, -1));
        Check.due("P18 ahead", land.display(0, 0), 1);
        land.dispute(0, 2, 3);
        Check.due("P18 disputed", land.display(0, 0), 2);
        land.dispute(0, 1, 1);
        Check.due("P18 not any more", land.display(0, 0), 1);
    }

    private static void shown() {
        NameLand land = withFeatures(2);
        Check.fails("P19 no feature", Check.INDEX, () -> land.shown(2, -1));
        Check.fails("P19 no feature -1", Check.INDEX, () -> land.shown(-1, 0));
        Check.fails("P19 day -1", Check.ARGUMENT, () -> land.shown(0, -1));
        Check.fails("P19 day 10000", Check.ARGUMENT, () -> land.shown(0, 10000));
        land.census(0, 3, 90);
        Check.due("P19 no FORM", land.shown(0, 0), 0);
        land.name(0, 1, 1, 0);
        land.name(0, 2, 1, 0);
        Check.due("P19 none told, the lowest", land.shown(0, 0), 2);
        land.census(0, 2, 19);
        Check.due("P19 that with the most", land.shown(0, 0), 4);
        land.census(0, 1, 19);
        Check.due("P19 of like ones the lowest", land.shown(0, 0), 2);
        land.census(0, 2, 20);
        Check.due("P19 at least 20", land.shown(0, 0), 4);
        land.census(0, 1, 20);
        Check.due("P19 two", land.shown(0, 0), 6);
        land.name(0, 0, 1, 0);
        land.name(0, 3, 1, 0);
        Check.due("P19 the lowest is not among them", land.shown(0, 0), 14);
        Check.due("P19 another feature", land.shown(1, 0), 0);
    }

    private static void shownOnDays() {
        NameLand land = withFeatures(1);
        land.census(0, 0, 30);
        land.census(0, 1, 10);
        land.name(0, 0, 1, 10);
        land.name(0, 1, 2, 0);
        Check.due("P19 ahead", land.shown(0, 9), 2);
        Check.due("P19 from its day", land.shown(0, 10), 1);
        land.law(0, 20, 1, 0, 0);
        Check.due("P19 a FORM without letters is none", land.shown(0, 20), 2);
        land.pass(1);
        land.except(0, 0, 20);
        Check.due("P19 as known now", land.shown(0, 20), 1);
        land.end(0, -1, 0);
        Check.due("P19 also of one that has ended", land.shown(0, 20), 1);
    }

    private static void display() {
        NameLand land = withFeatures(1);
        Check.fails("P20 no feature", Check.INDEX, () -> land.display(1, 0));
        Check.fails("P20 no tongue 4", Check.INDEX, () -> land.display(0, 4));
        Check.fails("P20 no tongue -1", Check.INDEX, () -> land.display(0, -1));
        Check.due("P20 nothing", land.display(0, 0), 0);
        land.name(0, 3, 3, 0);
        Check.due("P20 the lowest that has one", land.display(0, 0), 3);
        land.name(0, 1, 1, 0);
        Check.due("P20 a lower one", land.display(0, 0), 1);
        Check.due("P20 the own one", land.display(0, 3), 3);
        Check.due("P20 without the own one", land.display(0, 2), 1);
        land.name(0, 2, 2, 5);
        Check.due("P20 now, not yet", land.display(0, 2), 1);
        land.pass(5);
        Check.due("P20 now", land.display(0, 2), 2);
        land.census(0, 3, 100);
        Check.due("P20 the census does not matter", land.display(0, 0), 1);
        land.name(0, 1, 6, 4);
        Check.due("P20 another one now", land.display(0, 0), 6);
        land.name(0, 0, 5, 0);
        land.feature(0, 0, 0);
        land.name(1, 0, 5, 0);
        Check.due("P20 the lowest of all", land.display(1, 3), 5);
    }

    private static void displayDisputed() {
        NameLand land = withFeatures(1);
        land.dispute(0, 3, 1);
        land.name(0, 0, 10, 0);
        Check.due("P20 disputed, nothing without that FORM", land.display(0, 0), 0);
        Check.due("P20 disputed, nothing for its reader", land.display(0, 3), 0);
        land.name(0, 3, 13, 0);
        Check.due("P20 disputed, the higher one", land.display(0, 3), 13);
        Check.due("P20 disputed, nothing for the lower one", land.display(0, 1), 0);
        Check.due("P20 disputed, nothing for another one", land.display(0, 2), 0);
        land.name(0, 1, 11, 0);
        land.name(0, 2, 12, 0);
        Check.due("P20 disputed, the lower one", land.display(0, 1), 11);
        Check.due("P20 disputed, another one sees the lower one", land.display(0, 2), 11);
        Check.due("P20 disputed, another one of a lower tongue", land.display(0, 0), 11);
        Check.due("P20 disputed, shown is not changed", land.shown(0, 0), 1);
        land.name(0, 1, 14, 1);
        Check.due("P20 disputed, not yet", land.display(0, 1), 11);
        land.pass(1);
        Check.due("P20 disputed, now", land.display(0, 1), 14);
        Check.due("P20 disputed, now for another one", land.display(0, 2), 14);
    }
}
