/** Sentences of the document's terms that name a boundary and are not about one promise alone. */
public final class TermEdgesTest {
    public static void main(String[] args) {
        Edges.run(TermEdgesTest.class);
    }

    /** All of everything that may be told, by 243 calls. */
    private static NameLand full() {
        NameLand land = new NameLand();
        for (int i = 0; i < 24; i++) {
            land.feature(i % 5, i, 99 - i);
        }
        for (int i = 0; i < 100; i++) {
            land.name(i % 24, i % 4, 1 + i % 26, i);
        }
        for (int i = 0; i < 12; i++) {
            land.law(i % 4, 10 * i, 1 + i, 2 + i, 3 + i);
        }
        for (int i = 0; i < 40; i++) {
            land.except(i % 24, (i + 1) % 4, 50 + i);
        }
        for (int i = 0; i < 16; i++) {
            land.petition(i, i % 4, 1 + i, 30 + i);
        }
        for (int i = 0; i < 4; i++) {
            land.reading(1 + i, i, 99 - i);
        }
        for (int i = 0; i < 24; i++) {
            land.order(i);
        }
        for (int i = 1; i < 24; i++) {
            land.part(i, i - 1, i);
        }
        return land;
    }

    @Says(promise = 0, words = "An object is used for at most 512 calls after it has been made")
    private static void p01_the_512th_call_answers() {
        NameLand land = full();
        for (int i = 243; i < 511; i++) {
            Check.due("call " + (i + 1), land.of(i % 24, 1, 0, 0), i % 24);
        }
        Check.due("the 512th call", land.pass(12), 12);
    }

    @Says(promise = 0, words = "An object is used for at most 512 calls after it has been made")
    private static void p03_512_calls_that_tell() {
        NameLand land = new NameLand();
        for (int i = 0; i < 24; i++) {
            land.feature(0, 0, 0);
        }
        for (int i = 24; i < 510; i++) {
            land.move(i % 24, i % 100, 99 - i % 100, i);
        }
        Check.due("the 511th call", land.of(5, 1, 509, 0), 509 % 100);
        Check.due("the 512th call", land.of(5, 2, 9999, 0), 99 - 509 % 100);
    }

    @Says(promise = 0, words = "An object is used for at most 512 calls after it has been made")
    private static void p35_512_calls_of_pass() {
        NameLand land = new NameLand();
        for (int i = 1; i <= 512; i++) {
            Check.due("call " + i, land.pass(19), 19 * i);
        }
    }

    @Says(promise = 0, words = "A word is a row of 1 to 12 letters, 1 to 26, told as a number to the base 27, the first letter highest; "
        + "one that is told has at most 8 letters.")
    private static void p22_the_first_letter_is_the_highest() {
        NameLand land = new NameLand();
        land.table(0, 1, 3);
        Check.due("ab", land.write(27 + 2, 0), 3 * 27 + 2);
        Check.due("ba", land.write(2 * 27 + 1, 0), 2 * 27 + 3);
        Check.due("abc", land.write(27 * 27 + 2 * 27 + 3, 0), 3 * 27 * 27 + 2 * 27 + 3);
    }

    @Says(promise = 0, words = "A word is a row of 1 to 12 letters, 1 to 26, told as a number to the base 27, the first letter highest; "
        + "one that is told has at most 8 letters.")
    private static void p10_the_first_letters_are_those_that_stay() {
        NameLand land = new NameLand();
        land.feature(0, 0, 0);
        land.name(0, 0, 27 + 2, 0);
        land.law(0, 1, 1, 3, 4);
        Check.due("ab becomes cdb", land.form(0, 0, 1, 0), 3 * 27 * 27 + 4 * 27 + 2);
    }

    @Says(promise = 0, words = "one that is told has at most 8 letters.")
    private static void p07_p11_p25_words_of_9_letters_are_not_told_but_asked() {
        long word = Check.word("aaaaaaaaa");
        Recipe one = land -> land.feature(0, 0, 0);
        Check.refuses("a name", one, Check.ARGUMENT, land -> land.name(0, 0, word, 0));
        Check.refuses("a petition", one, Check.ARGUMENT, land -> land.petition(0, 0, word, 30));
        Check.refuses("a reading", one, Check.ARGUMENT, land -> land.reading(word, 0, 0));
        Check.takes("written", one, land -> land.write(word, 0));
        Check.takes("read back", one, land -> land.back(word, 0));
        Check.takes("searched", one, land -> land.find(word, 0, 0, 0));
    }

    @Says(promise = 0, words = "0 is no word.")
    private static void p07_p11_p22_p23_p25_p29_0_is_no_word() {
        Recipe one = land -> land.feature(0, 0, 0);
        Check.refuses("a name", one, Check.ARGUMENT, land -> land.name(0, 0, 0, 0));
        Check.refuses("a petition", one, Check.ARGUMENT, land -> land.petition(0, 0, 0, 30));
        Check.refuses("a reading", one, Check.ARGUMENT, land -> land.reading(0, 0, 0));
        Check.refuses("written", one, Check.ARGUMENT, land -> land.write(0, 0));
        Check.refuses("read back", one, Check.ARGUMENT, land -> land.back(0, 0));
        Check.refuses("searched", one, Check.ARGUMENT, land -> land.find(0, 0, 0, 0));
    }

    @Says(promise = 0, words = "IllegalStateException if a call is not possible now, also if there would be more than told.")
    private static void p02_p07_p08_p09_p11_p25_a_full_land_takes_no_more() {
        NameLand land = full();
        Check.fails("features", Check.STATE, () -> land.feature(0, 0, 0));
        Check.fails("names", Check.STATE, () -> land.name(0, 0, 1, 0));
        Check.fails("laws", Check.STATE, () -> land.law(0, 0, 1, 2, 0));
        Check.fails("exceptions", Check.STATE, () -> land.except(0, 0, 0));
        Check.fails("petitions", Check.STATE, () -> land.petition(0, 0, 1, 30));
        Check.fails("readings", Check.STATE, () -> land.reading(1, 0, 0));
        Check.fails("orders", Check.STATE, () -> land.order(0));
        Check.due("another land takes them", new NameLand().feature(0, 0, 0), 0);
    }

    @Says(promise = 0, words = "A feature has a place from a day on, two numbers, 0 to 99, may be a part of another one "
        + "from a day on, and may end on a day, in another one or not.")
    private static void p06_all_that_a_feature_may_have() {
        NameLand land = new NameLand();
        land.feature(0, 0, 0);
        land.feature(5, 99, 99);
        land.move(1, 0, 99, 4);
        land.part(1, 0, 5);
        land.end(1, 0, 6);
        int[][] want = {{1, 99, 99, -1, -1}, {1, 0, 99, -1, -1}, {1, 0, 99, 0, -1}, {0, 0, 99, 0, 0}};
        for (int day = 3; day <= 6; day++) {
            for (int what = 0; what <= 4; what++) {
                Check.due("what " + what + " on day " + day, land.of(1, what, day, 0), want[day - 3][what]);
            }
        }
    }

    @Says(promise = 0, words = "Days are counted from 0, at most 9999")
    private static void p03_p04_p05_p07_p08_p09_days_that_were_may_be_told() {
        NameLand land = new NameLand();
        land.feature(0, 0, 0);
        land.feature(0, 0, 0);
        land.pass(10);
        land.move(1, 5, 6, 0);
        land.part(1, 0, 0);
        land.name(1, 0, 1, 0);
        land.law(0, 1, 1, 2, 0);
        Check.due("a place", land.of(1, 1, 0, 10), 5);
        Check.due("a whole", land.of(1, 3, 0, 10), 0);
        Check.due("a name", land.form(1, 0, 0, 10), 1);
        Check.due("a law", land.form(1, 0, 1, 10), 2);
        land.except(1, 0, 0);
        Check.due("an exception", land.form(1, 0, 1, 10), 1);
        land.end(1, -1, 0);
        Check.due("an end", land.of(1, 0, 0, 10), 0);
    }

    @Says(promise = 0, words = "A call that throws an exception changes nothing.")
    private static void p14_p15_a_refused_decision_and_a_refused_appeal() {
        NameLand land = new NameLand();
        land.feature(0, 0, 0);
        land.petition(0, 0, 1, 30);
        for (int i = 0; i < 4; i++) {
            land.vote(0, i, true);
        }
        Check.fails("4 votes", Check.STATE, () -> land.decide(0));
        Check.fails("OPEN", Check.STATE, () -> land.appeal(0));
        Check.due("the state", land.petitionOf(0, 0), 0);
        Check.due("the day of deciding", land.petitionOf(0, 4), -1);
        Check.due("the 5th vote", land.vote(0, 4, true), 5);
        Check.due("DECIDED", land.decide(0), 1);
        Check.fails("not OPEN", Check.STATE, () -> land.decide(0));
        Check.due("one name", land.name(0, 1, 1, 0), 2);
    }

    @Says(promise = 0, words = "What is told of a day that is asked, as it was known on some day")
    private static void p06_p10_days_that_are_not_come_may_be_asked() {
        NameLand land = new NameLand();
        land.feature(0, 7, 8);
        land.name(0, 0, 1, 0);
        Check.due("a place known on a day to come", land.of(0, 1, 9999, 9999), 7);
        Check.due("a FORM known on a day to come", land.form(0, 0, 9999, 9999), 1);
        land.pass(1);
        land.name(0, 0, 2, 0);
        Check.due("a FORM known on a day to come, told since", land.form(0, 0, 9999, 9999), 2);
        Check.due("a FORM known ahead", land.form(0, 0, 9999, 0), 1);
    }
}
