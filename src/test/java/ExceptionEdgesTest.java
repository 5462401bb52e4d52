/**
 * Which exception goes first if several apply, for each call that throws any, and that such a call changes nothing:
 * all arguments are tried together, on lands in which the call is possible, and on lands in which it is not.
 */
public final class ExceptionEdgesTest {
    private static final int STREET = NameLand.STREET;
    private static final long OAK = Check.word("oak");
    private static final long LONG_WORD = Check.word("aaaaaaaaa");
    private static final long LONGEST = Check.word("zzzzzzzzzzzz");

    /** Two features and two STREETS of the first one; a name, a law, an exception, a petition, a reading, an order. */
    private static final Recipe LAND = land -> {
        land.feature(0, 10, 20);
        land.feature(1, 30, 40);
        land.feature(STREET, 11, 20);
        land.feature(STREET, 12, 20);
        land.part(2, 0, 0);
        land.part(3, 0, 0);
        land.pass(3);
        land.name(2, 0, OAK, 0);
        land.law(0, 20, 1, 2, 3);
        land.except(2, 1, 5);
        land.petition(0, 0, OAK, 90);
        land.petition(3, 1, OAK, 90);
        votes(land, 0, 5);
        land.reading(OAK, 11, 20);
        land.order(1);
        land.census(0, 1, 30);
        land.table(1, 2, 3);
        land.pull(2);
    };

    private static void votes(NameLand land, int petition, int votes) {
        for (int i = 0; i < votes; i++) {
            land.vote(petition, i, true);
        }
    }

    private interface Times {
        void told(NameLand land, int i);
    }

    /** LAND, with something told some times more. */
    private static Recipe with(int times, Times call) {
        return land -> {
            LAND.make(land);
            for (int i = 0; i < times; i++) {
                call.told(land, i);
            }
        };
    }

    private static Recipe with(Check.Call call) {
        return with(1, (land, i) -> call.on(land));
    }

    public static void main(String[] args) {
        Edges.run(ExceptionEdgesTest.class);
    }

    @Says(promise = 0, words = "If several apply, IndexOutOfBoundsException goes first, then IllegalArgumentException.")
    private static void p02_feature() {
        new Arguments((land, a) -> land.feature((int) a[0], (int) a[1], (int) a[2]))
            .range(5, -1, 6).range(7, -1, 100).range(8, -1, 100)
            .possible(LAND).possible(land -> { }).impossible(with(20, (land, i) -> land.feature(0, i, i)));
    }

    @Says(promise = 0, words = "If several apply, IndexOutOfBoundsException goes first, then IllegalArgumentException.")
    private static void p03_move() {
        new Arguments((land, a) -> land.move((int) a[0], (int) a[1], (int) a[2], (int) a[3]))
            .index(1, -1, 4).range(7, -1, 100).range(8, -1, 100).range(9, -1, 10000)
            .possible(LAND).impossible(with(39, (land, i) -> land.move(1, i, i, i)));
    }

    @Says(promise = 0, words = "If several apply, IndexOutOfBoundsException goes first, then IllegalArgumentException.")
    private static void p04_part() {
        new Arguments((land, a) -> land.part((int) a[0], (int) a[1], (int) a[2]))
            .index(2, -1, 4).both(1, new long[] {-2, 4}, new long[] {2, 3}).range(9, -1, 10000)
            .possible(LAND).impossible(with(39, (land, i) -> land.part(2, 1, i)));
    }

    @Says(promise = 0, words = "If several apply, IndexOutOfBoundsException goes first, then IllegalArgumentException.")
    private static void p05_end() {
        new Arguments((land, a) -> land.end((int) a[0], (int) a[1], (int) a[2]))
            .index(1, -1, 4).both(-1, new long[] {-2, 4}, new long[] {1}).range(9, -1, 10000)
            .possible(LAND).impossible(with(land -> land.end(1, 0, 8)));
    }

    @Says(promise = 0, words = "If several apply, IndexOutOfBoundsException goes first, then IllegalArgumentException.")
    private static void p06_of() {
        new Arguments((land, a) -> land.of((int) a[0], (int) a[1], (int) a[2], (int) a[3]))
            .index(1, -1, 4).range(4, -1, 5).range(7, -1, 10000).range(8, -1, 10000)
            .possible(LAND);
    }

    @Says(promise = 0, words = "If several apply, IndexOutOfBoundsException goes first, then IllegalArgumentException.")
    private static void p07_name() {
        Arguments name = new Arguments((land, a) -> land.name((int) a[0], (int) a[1], a[2], (int) a[3]))
            .index(3, -1, 4).index(0, -1, 4).range(OAK, 0, -1, LONG_WORD).range(5, -1, 10000);
        name.possible(with(land -> land.part(3, 1, 0)));
        name.impossible(LAND);
        name.impossible(with(99, (land, i) -> land.name(i % 2, i % 4, 1, i)));
    }

    @Says(promise = 0, words = "If several apply, IndexOutOfBoundsException goes first, then IllegalArgumentException.")
    private static void p08_law() {
        new Arguments((land, a) -> land.law((int) a[0], (int) a[1], (int) a[2], (int) a[3], (int) a[4]))
            .index(0, -1, 4).range(5, -1, 10000).range(1, 0, 27).range(2, -1, 27).range(3, -1, 27)
            .possible(LAND).impossible(with(11, (land, i) -> land.law(i % 4, i, 1, 2, 0)));
    }

    @Says(promise = 0, words = "If several apply, IndexOutOfBoundsException goes first, then IllegalArgumentException.")
    private static void p08_law_with_nothing_first() {
        new Arguments((land, a) -> land.law((int) a[0], (int) a[1], (int) a[2], 0, (int) a[3]))
            .index(0, -1, 4).range(5, -1, 10000).range(1, 0, 27).range(0, -1, 1, 26, 27)
            .possible(LAND).impossible(with(11, (land, i) -> land.law(i % 4, i, 1, 2, 0)));
    }

    @Says(promise = 0, words = "If several apply, IndexOutOfBoundsException goes first, then IllegalArgumentException.")
    private static void p09_except() {
        new Arguments((land, a) -> land.except((int) a[0], (int) a[1], (int) a[2]))
            .index(2, -1, 4).index(0, -1, 4).range(5, -1, 10000)
            .possible(LAND).impossible(with(39, (land, i) -> land.except(i % 4, i % 3, i)));
    }

    @Says(promise = 0, words = "If several apply, IndexOutOfBoundsException goes first, then IllegalArgumentException.")
    private static void p10_form() {
        new Arguments((land, a) -> land.form((int) a[0], (int) a[1], (int) a[2], (int) a[3]))
            .index(2, -1, 4).index(0, -1, 4).range(5, -1, 10000).range(5, -1, 10000)
            .possible(LAND);
    }

    @Says(promise = 0, words = "If several apply, IndexOutOfBoundsException goes first, then IllegalArgumentException.")
    private static void p11_petition() {
        new Arguments((land, a) -> land.petition((int) a[0], (int) a[1], a[2], (int) a[3]))
            .index(2, -1, 4).index(0, -1, 4).range(OAK, 0, LONG_WORD).range(33, -1, 32, 10000)
            .possible(LAND).impossible(with(14, (land, i) -> land.petition(1, 0, OAK, 50)));
    }

    @Says(promise = 0, words = "If several apply, IndexOutOfBoundsException goes first, then IllegalArgumentException.")
    private static void p12_vote() {
        new Arguments((land, a) -> land.vote((int) a[0], (int) a[1], a[2] == 1))
            .index(0, -1, 2).index(8, -1, 9).range(1)
            .possible(LAND).impossible(with(land -> land.vote(0, 8, false))).impossible(with(land -> land.decide(0)));
    }

    @Says(promise = 0, words = "If several apply, IndexOutOfBoundsException goes first, then IllegalArgumentException.")
    private static void p13_protest() {
        new Arguments((land, a) -> land.protest((int) a[0], (int) a[1]))
            .index(0, -1, 2).index(7, -1, 8)
            .possible(LAND).possible(with(land -> land.protest(0, 7))).impossible(with(land -> land.decide(0)));
    }

    @Says(promise = 0, words = "If several apply, IndexOutOfBoundsException goes first, then IllegalArgumentException.")
    private static void p14_decide() {
        Arguments decide = new Arguments((land, a) -> land.decide((int) a[0])).index(0, -1, 2, 16);
        decide.possible(LAND).impossible(with(land -> land.decide(0)));
        decide.possible(with(land -> land.pass(86))).impossible(with(land -> land.pass(87)));
        decide.impossible(with(land -> land.protest(0, 7)));
        decide.possible(with(98, (land, i) -> land.name(0, 0, 1, 0)));
        decide.impossible(with(99, (land, i) -> land.name(0, 0, 1, 0)));
        new Arguments((land, a) -> land.decide((int) a[0])).index(1, -1, 2)
            .impossible(LAND).impossible(with(land -> votes(land, 1, 4))).possible(with(land -> votes(land, 1, 5)));
    }

    @Says(promise = 0, words = "If several apply, IndexOutOfBoundsException goes first, then IllegalArgumentException.")
    private static void p15_appeal() {
        Recipe decided = with(land -> land.decide(0));
        Arguments appeal = new Arguments((land, a) -> land.appeal((int) a[0])).index(0, -1, 2, 16);
        appeal.possible(decided).impossible(LAND);
        appeal.impossible(land -> {
            decided.make(land);
            land.appeal(0);
        });
        for (int i = 60; i <= 61; i++) {
            int days = i;
            Recipe later = land -> {
                decided.make(land);
                land.pass(days);
            };
            if (days == 60) {
                appeal.possible(later);
            } else {
                appeal.impossible(later);
            }
        }
    }

    @Says(promise = 0, words = "If several apply, IndexOutOfBoundsException goes first, then IllegalArgumentException.")
    private static void p16_petition_of() {
        new Arguments((land, a) -> land.petitionOf((int) a[0], (int) a[1]))
            .index(0, -1, 2).range(4, -1, 5)
            .possible(LAND);
    }

    @Says(promise = 0, words = "If several apply, IndexOutOfBoundsException goes first, then IllegalArgumentException.")
    private static void p17_census() {
        new Arguments((land, a) -> land.census((int) a[0], (int) a[1], (int) a[2]))
            .index(0, -1, 4).index(1, -1, 4).range(50, -1, 101)
            .possible(LAND);
    }

    @Says(promise = 0, words = "IndexOutOfBoundsException is thrown for a feature, tongue, petition, councillor, person, "
        + "table, reading or subscriber that does not exist")
    private static void p18_dispute() {
        new Arguments((land, a) -> land.dispute((int) a[0], (int) a[1], (int) a[2]))
            .index(2, -1, 4).index(1, -1, 4).index(0, -1, 4)
            .possible(LAND);
    }

    @Says(promise = 0, words = "If several apply, IndexOutOfBoundsException goes first, then IllegalArgumentException.")
    private static void p19_shown() {
        new Arguments((land, a) -> land.shown((int) a[0], (int) a[1]))
            .index(2, -1, 4).range(50, -1, 10000)
            .possible(LAND);
    }

    @Says(promise = 0, words = "IndexOutOfBoundsException is thrown for a feature, tongue, petition, councillor, person, "
        + "table, reading or subscriber that does not exist")
    private static void p20_display() {
        new Arguments((land, a) -> land.display((int) a[0], (int) a[1]))
            .index(2, -1, 4).index(3, -1, 4)
            .possible(LAND);
    }

    @Says(promise = 0, words = "If several apply, IndexOutOfBoundsException goes first, then IllegalArgumentException.")
    private static void p21_table() {
        new Arguments((land, a) -> land.table((int) a[0], (int) a[1], (int) a[2]))
            .index(1, -1, 4).range(1, 0, 27).range(26, 0, 27)
            .possible(LAND);
    }

    @Says(promise = 0, words = "If several apply, IndexOutOfBoundsException goes first, then IllegalArgumentException.")
    private static void p22_write() {
        new Arguments((land, a) -> land.write(a[0], (int) a[1]))
            .range(LONGEST, 0, -1, 27, LONGEST + 1).index(1, -1, 4)
            .possible(LAND);
    }

    @Says(promise = 0, words = "If several apply, IndexOutOfBoundsException goes first, then IllegalArgumentException.")
    private static void p23_back() {
        new Arguments((land, a) -> land.back(a[0], (int) a[1]))
            .range(LONGEST, 0, -1, 27, LONGEST + 1).index(1, -1, 4)
            .possible(LAND);
    }

    @Says(promise = 0, words = "IndexOutOfBoundsException is thrown for a feature, tongue, petition, councillor, person, "
        + "table, reading or subscriber that does not exist")
    private static void p24_loss() {
        new Arguments((land, a) -> land.loss((int) a[0])).index(3, -1, 4).possible(LAND);
    }

    @Says(promise = 0, words = "If several apply, IndexOutOfBoundsException goes first, then IllegalArgumentException.")
    private static void p25_reading() {
        new Arguments((land, a) -> land.reading(a[0], (int) a[1], (int) a[2]))
            .range(OAK, 0, LONG_WORD).range(0, -1, 100).range(99, -1, 100)
            .possible(LAND).impossible(with(3, (land, i) -> land.reading(OAK, i, i)));
    }

    @Says(promise = 0, words = "IndexOutOfBoundsException is thrown for a feature, tongue, petition, councillor, person, "
        + "table, reading or subscriber that does not exist")
    private static void p26_cost() {
        new Arguments((land, a) -> land.cost((int) a[0], (int) a[1])).index(0, -1, 1, 4).index(2, -1, 4).possible(LAND);
    }

    @Says(promise = 27, words = "Returns what all readings cost together by the cheapest assignment; -1 if there is none.")
    private static void p27_assign_throws_nothing() {
        Check.takes("with a reading", LAND, NameLand::assign);
        Check.takes("without features", land -> land.reading(OAK, 0, 0), NameLand::assign);
        Check.takes("without anything", land -> { }, NameLand::assign);
    }

    @Says(promise = 28, words = "Returns how many assignments there are; 1 without readings.")
    private static void p28_ways_throws_nothing() {
        Check.takes("with a reading", LAND, NameLand::ways);
        Check.takes("without features", land -> land.reading(OAK, 0, 0), NameLand::ways);
        Check.takes("without anything", land -> { }, NameLand::ways);
    }

    @Says(promise = 0, words = "If several apply, IndexOutOfBoundsException goes first, then IllegalArgumentException.")
    private static void p29_find() {
        new Arguments((land, a) -> land.find(a[0], (int) a[1], (int) a[2], (int) a[3]))
            .range(LONGEST, 0, LONGEST + 1).range(0, -1, 100).range(99, -1, 100).index(0, -1)
            .possible(LAND).possible(land -> { });
    }

    @Says(promise = 0, words = "IndexOutOfBoundsException is thrown for a feature, tongue, petition, councillor, person, "
        + "table, reading or subscriber that does not exist")
    private static void p30_pull() {
        new Arguments((land, a) -> land.pull((int) a[0])).index(3, -1, 4).possible(LAND);
    }

    @Says(promise = 0, words = "IndexOutOfBoundsException is thrown for a feature, tongue, petition, councillor, person, "
        + "table, reading or subscriber that does not exist")
    private static void p31_copy() {
        new Arguments((land, a) -> land.copy((int) a[0], (int) a[1], (int) a[2]))
            .index(3, -1, 4).index(2, -1, 4).index(0, -1, 4)
            .possible(LAND);
    }

    @Says(promise = 0, words = "If several apply, IndexOutOfBoundsException goes first, then IllegalArgumentException.")
    private static void p32_order() {
        new Arguments((land, a) -> land.order((int) a[0])).index(2, -1, 4)
            .possible(LAND).impossible(with(land -> land.order(2)));
    }

    @Says(promise = 0, words = "IllegalArgumentException for another argument out of range")
    private static void p33_budget() {
        new Arguments((land, a) -> land.budget((int) a[0])).range(10, -1, 11).possible(LAND);
    }

    @Says(promise = 0, words = "IndexOutOfBoundsException is thrown for a feature, tongue, petition, councillor, person, "
        + "table, reading or subscriber that does not exist")
    private static void p34_sign() {
        new Arguments((land, a) -> land.sign((int) a[0])).index(2, -1, 4).possible(LAND);
    }

    @Says(promise = 0, words = "If several apply, IndexOutOfBoundsException goes first, then IllegalArgumentException.")
    private static void p35_pass() {
        Recipe day9997 = with(25, (land, i) -> land.pass(i < 24 ? 400 : 394));
        new Arguments((land, a) -> land.pass((int) a[0])).range(400, -1, 0, 401).possible(LAND).impossible(day9997);
        new Arguments((land, a) -> land.pass((int) a[0])).range(2, -1, 0, 401).possible(day9997);
        new Arguments((land, a) -> land.pass((int) a[0])).range(3, -1, 0, 401).impossible(day9997);
    }
}
