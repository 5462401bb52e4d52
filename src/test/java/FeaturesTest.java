/** Promises 1 to 6: a new object, feature, move, part, end, of. */
public final class FeaturesTest {
    public static void main(String[] args) {
        newLand();
        feature();
        featureLimits();
        move();
        moveLimit();
        part();
        partLimit();
        end();
        of();
        ofAsKnown();
        Check.end("FeaturesTest");
    }

    private static void newLand() {
        NameLand land = new NameLand();
        Check.fails("P1 no feature", Check.INDEX, () -> land.of(0, 0, 0, 0));
        Check.due("P1 on the day 0", land.pass(1), 1);
        Check.due("P1 budget", land.budget(0), 2);
        Check.due("P1 ways", land.ways(), 1);
        Check.due("P1 assign", land.assign(), 0);
        Check.due("P1 loss", land.loss(3), 0);
        Check.due("P1 find", land.find(1, 0, 0, 0), -1);
        Check.fails("P1 no petition", Check.INDEX, () -> land.petitionOf(0, 0));
        Check.due("P1 the constant NONE", NameLand.NONE, -1);
        Check.due("P1 the constant STREET", NameLand.STREET, 5);
    }

    private static void feature() {
        NameLand land = new NameLand();
        Check.due("P2 the first", land.feature(0, 0, 0), 0);
        land.pass(7);
        Check.due("P2 the second", land.feature(5, 99, 98), 1);
        Check.due("P2 not there ahead of its day", land.of(1, 0, 6, 9999), 0);
        Check.due("P2 there from its day", land.of(1, 0, 7, 9999), 1);
        Check.due("P2 there later", land.of(1, 0, 9999, 9999), 1);
        Check.due("P2 first number", land.of(1, 1, 7, 7), 99);
        Check.due("P2 second number", land.of(1, 2, 7, 7), 98);
        Check.due("P2 no place ahead", land.of(1, 1, 6, 7), -1);
        Check.due("P2 no second number ahead", land.of(1, 2, 6, 7), -1);
        Check.due("P2 a part of nothing", land.of(1, 3, 7, 7), -1);
        Check.due("P2 has not ended", land.of(1, 4, 7, 7), -1);
        Check.due("P2 sign at first", land.sign(1), 0);
    }

    private static void featureLimits() {
        NameLand land = new NameLand();
        int[][] wrong = {{-1, 0, 0}, {6, 0, 0}, {0, -1, 0}, {0, 100, 0}, {0, 0, -1}, {0, 0, 100},
            {Integer.MIN_VALUE, 0, 0}, {0, Integer.MAX_VALUE, 0}};
        for (int[] w : wrong) {
            Check.fails("P2 out of range " + w[0] + " " + w[1] + " " + w[2], Check.ARGUMENT,
                () -> land.feature(w[0], w[1], w[2]));
        }
        for (int i = 0; i < 24; i++) {
            Check.due("P2 number", land.feature(i % 6, i, 99 - i), i);
        }
        Check.fails("P2 a 25th", Check.STATE, () -> land.feature(0, 0, 0));
        Check.fails("P2 argument ahead of state", Check.ARGUMENT, () -> land.feature(6, 0, 0));
        Check.due("P2 the last is there", land.of(23, 1, 0, 0), 23);
    }

    private static void move() {
        NameLand land = new NameLand();
        land.feature(0, 1, 2);
        land.pass(10);
        land.feature(0, 3, 4);
        land.move(0, 50, 60, 20);
        land.move(0, 51, 61, 15);
        Check.due("P3 ahead", land.of(0, 1, 14, 10), 1);
        Check.due("P3 from its day", land.of(0, 1, 15, 10), 51);
        Check.due("P3 second number", land.of(0, 2, 15, 10), 61);
        Check.due("P3 the latest day counts, not the last told", land.of(0, 1, 20, 10), 50);
        Check.due("P3 as known ahead", land.of(0, 1, 20, 9), 1);
        land.move(0, 52, 62, 20);
        Check.due("P3 of one day the last told", land.of(0, 2, 25, 10), 62);
        land.move(1, 7, 8, 2);
        Check.due("P3 a place of an earlier day", land.of(1, 1, 2, 10), 7);
        Check.due("P3 not there by that", land.of(1, 0, 2, 10), 0);
        Check.due("P3 the later day of its telling counts", land.of(1, 1, 10, 10), 3);
        Check.due("P3 no place as known ahead", land.of(1, 1, 10, 9), -1);
        land.move(1, 0, 99, 9999);
        Check.due("P3 the last day", land.of(1, 2, 9999, 9999), 99);
    }

    private static void moveLimit() {
        NameLand land = new NameLand();
        land.feature(0, 1, 2);
        land.feature(0, 1, 2);
        Check.fails("P3 no feature 2", Check.INDEX, () -> land.move(2, -1, 0, 0));
        Check.fails("P3 no feature -1", Check.INDEX, () -> land.move(-1, 0, 0, 0));
        int[][] wrong = {{-1, 0, 0}, {100, 0, 0}, {0, -1, 0}, {0, 100, 0}, {0, 0, -1}, {0, 0, 10000}};
        for (int[] w : wrong) {
            Check.fails("P3 out of range " + w[0] + " " + w[1] + " " + w[2], Check.ARGUMENT,
                () -> land.move(0, w[0], w[1], w[2]));
        }
        // The place that was told with the feature is the first of the 40.
        for (int i = 1; i < 40; i++) {
            land.move(0, i, i, i);
        }
        Check.fails("P3 a 41st place", Check.STATE, () -> land.move(0, 0, 0, 50));
        Check.fails("P3 argument ahead of state", Check.ARGUMENT, () -> land.move(0, 0, 0, 10000));
        Check.due("P3 the 40th counts", land.of(0, 1, 9999, 0), 39);
        land.move(1, 9, 9, 50);
        Check.due("P3 40 of each feature", land.of(1, 1, 50, 0), 9);
    }

    private static void part() {
        NameLand land = new NameLand();
        land.feature(0, 1, 2);
        land.feature(0, 1, 2);
        land.feature(0, 1, 2);
        land.part(2, 1, 10);
        land.part(2, 0, 20);
        Check.due("P4 ahead", land.of(2, 3, 9, 0), -1);
        Check.due("P4 from its day", land.of(2, 3, 10, 0), 1);
        Check.due("P4 until ahead of the next", land.of(2, 3, 19, 0), 1);
        Check.due("P4 the next", land.of(2, 3, 20, 0), 0);
        land.pass(5);
        land.part(2, -1, 10);
        Check.due("P4 nothing, of one day the last told", land.of(2, 3, 10, 5), -1);
        Check.due("P4 as known ahead", land.of(2, 3, 10, 4), 1);
        Check.due("P4 the latest day counts", land.of(2, 3, 20, 5), 0);
        land.part(0, -1, 9999);
        Check.due("P4 the first may be a part of nothing", land.of(0, 3, 9999, 9999), -1);
    }

    private static void partLimit() {
        NameLand land = new NameLand();
        land.feature(0, 1, 2);
        land.feature(0, 1, 2);
        land.feature(0, 1, 2);
        Check.fails("P4 no feature", Check.INDEX, () -> land.part(3, 0, 0));
        Check.fails("P4 no whole 3", Check.INDEX, () -> land.part(1, 3, -1));
        Check.fails("P4 no whole -2", Check.INDEX, () -> land.part(1, -2, 0));
        Check.fails("P4 the same", Check.ARGUMENT, () -> land.part(1, 1, 0));
        Check.fails("P4 a higher whole", Check.ARGUMENT, () -> land.part(1, 2, 0));
        Check.fails("P4 day -1", Check.ARGUMENT, () -> land.part(1, 0, -1));
        Check.fails("P4 day 10000", Check.ARGUMENT, () -> land.part(1, 0, 10000));
        for (int i = 0; i < 40; i++) {
            land.part(2, i % 3 - 1, i);
        }
        Check.fails("P4 a 41st time", Check.STATE, () -> land.part(2, 1, 50));
        Check.fails("P4 index ahead of state", Check.INDEX, () -> land.part(2, 3, 50));
        Check.fails("P4 argument ahead of state", Check.ARGUMENT, () -> land.part(2, 2, 50));
        Check.due("P4 the 40th counts", land.of(2, 3, 9999, 0), -1);
        Check.due("P4 the 39th counts", land.of(2, 3, 38, 0), 1);
        land.part(1, 0, 0);
        Check.due("P4 40 times of each feature", land.of(1, 3, 0, 0), 0);
    }

    private static void end() {
        NameLand land = new NameLand();
        land.feature(0, 1, 2);
        land.feature(0, 3, 4);
        land.feature(0, 5, 6);
        Check.fails("P5 no feature", Check.INDEX, () -> land.end(3, 0, -1));
        Check.fails("P5 no in 3", Check.INDEX, () -> land.end(0, 3, -1));
        Check.fails("P5 no in -2", Check.INDEX, () -> land.end(0, -2, 0));
        Check.fails("P5 the same", Check.ARGUMENT, () -> land.end(0, 0, 0));
        Check.fails("P5 day -1", Check.ARGUMENT, () -> land.end(0, 1, -1));
        Check.fails("P5 day 10000", Check.ARGUMENT, () -> land.end(0, 1, 10000));
        land.pass(3);
        land.end(0, 1, 10);
        Check.due("P5 there ahead", land.of(0, 0, 9, 3), 1);
        Check.due("P5 not there from its day", land.of(0, 0, 10, 3), 0);
        Check.due("P5 as known ahead", land.of(0, 0, 10, 2), 1);
        Check.due("P5 in what", land.of(0, 4, 10, 3), 1);
        Check.due("P5 in what, not come yet", land.of(0, 4, 9, 3), -1);
        Check.due("P5 in what, as known ahead", land.of(0, 4, 10, 2), -1);
        Check.due("P5 it keeps its place", land.of(0, 1, 10, 3), 1);
        Check.fails("P5 once", Check.STATE, () -> land.end(0, 2, 20));
        Check.fails("P5 argument ahead of state", Check.ARGUMENT, () -> land.end(0, 0, 20));
        land.end(1, -1, 0);
        Check.due("P5 ended in none", land.of(1, 4, 0, 3), -1);
        Check.due("P5 never there", land.of(1, 0, 0, 3), 0);
        Check.fails("P5 once, in none", Check.STATE, () -> land.end(1, -1, 0));
        land.end(2, 0, 9999);
        Check.due("P5 in a lower one", land.of(2, 4, 9999, 9999), 0);
        Check.due("P5 there until the last day", land.of(2, 0, 9998, 9999), 1);
    }

    private static void of() {
        NameLand land = new NameLand();
        land.feature(0, 1, 2);
        Check.fails("P6 no feature", Check.INDEX, () -> land.of(1, 9, 0, 0));
        Check.fails("P6 no feature -1", Check.INDEX, () -> land.of(-1, 0, 0, 0));
        int[][] wrong = {{-1, 0, 0}, {5, 0, 0}, {0, -1, 0}, {0, 10000, 0}, {0, 0, -1}, {0, 0, 10000}};
        for (int[] w : wrong) {
            Check.fails("P6 out of range " + w[0] + " " + w[1] + " " + w[2], Check.ARGUMENT,
                () -> land.of(0, w[0], w[1], w[2]));
        }
        Check.due("P6 there", land.of(0, 0, 0, 0), 1);
        Check.due("P6 first", land.of(0, 1, 9999, 9999), 1);
        Check.due("P6 second", land.of(0, 2, 9999, 0), 2);
    }

    private static void ofAsKnown() {
        NameLand land = new NameLand();
        land.pass(5);
        land.feature(0, 1, 2);
        Check.due("P6 not known ahead of its telling", land.of(0, 0, 10, 4), 0);
        Check.due("P6 known from its telling", land.of(0, 0, 10, 5), 1);
        Check.due("P6 place not known ahead", land.of(0, 1, 10, 4), -1);
        land.end(0, -1, 3);
        Check.due("P6 ended ahead of its day", land.of(0, 0, 5, 5), 0);
        land.pass(5);
        land.move(0, 9, 8, 7);
        Check.due("P6 what held then, as known then", land.of(0, 1, 7, 9), 1);
        Check.due("P6 what held then, as known now", land.of(0, 1, 7, 10), 9);
        Check.due("P6 what held ahead, as known now", land.of(0, 1, 6, 10), 1);
    }
}
