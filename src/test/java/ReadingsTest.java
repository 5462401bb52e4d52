/** Promises 25 to 29: reading, cost, assign, ways, find. */
public final class ReadingsTest {
    public static void main(String[] args) {
        reading();
        costOfLetters();
        costOfPlaces();
        costThere();
        assign();
        assignCheapest();
        waysOfMany();
        find();
        findOrder();
        findWrong();
        Check.end("ReadingsTest");
    }

    private static void reading() {
        NameLand land = new NameLand();
        Check.fails("P25 no word", Check.ARGUMENT, () -> land.reading(0, 0, 0));
        Check.fails("P25 9 letters", Check.ARGUMENT, () -> land.reading(Check.word("aaaaaaaaa"), 0, 0));
        Check.fails("P25 x -1", Check.ARGUMENT, () -> land.reading(1, -1, 0));
        Check.fails("P25 x 100", Check.ARGUMENT, () -> land.reading(1, 100, 0));
        Check.fails("P25 y -1", Check.ARGUMENT, () -> land.reading(1, 0, -1));
        Check.fails("P25 y 100", Check.ARGUMENT, () -> land.reading(1, 0, 100));
        for (int i = 0; i < 4; i++) {
            Check.due("P25 number", land.reading(Check.word("zzzzzzzz"), 99, 99), i);
        }
        Check.fails("P25 a 5th", Check.STATE, () -> land.reading(1, 0, 0));
        Check.fails("P25 argument ahead of state", Check.ARGUMENT, () -> land.reading(27, 0, 0));
    }

    private static void cost(String what, String read, String name, int want) {
        NameLand land = new NameLand();
        land.feature(0, 5, 5);
        land.name(0, 0, Check.word(name), 0);
        land.reading(Check.word(read), 5, 5);
        Check.due("P26 " + what + " " + read + " " + name, land.cost(0, 0), want);
    }

    private static void costOfLetters() {
        cost("like words", "abcdefgh", "abcdefgh", 0);
        cost("changed", "abc", "axc", 10);
        cost("put in", "abc", "abxc", 10);
        cost("taken out", "abc", "ac", 10);
        cost("put in at the front", "bc", "abc", 10);
        cost("taken out at the end", "abc", "ab", 10);
        cost("turned", "ab", "ba", 20);
        cost("moved by one", "abcdefgh", "bcdefgha", 20);
        cost("longer by five", "a", "aaaaaa", 50);
        cost("shorter by six", "aaaaaaa", "a", 60);
        cost("shorter by seven", "aaaaaaaa", "a", -1);
        cost("all changed", "abcdef", "uvwxyz", 60);
        cost("all of 7 changed", "abcdefg", "tuvwxyz", -1);
        cost("kitten", "kitten", "sitting", 30);
        cost("sunday", "sunday", "saturday", 30);
    }

    private static void costOfPlaces() {
        NameLand land = new NameLand();
        land.feature(0, 10, 50);
        land.name(0, 1, Check.word("ab"), 100);
        land.name(0, 2, Check.word("abcd"), 200);
        land.reading(Check.word("abcde"), 20, 30);
        Check.due("P26 the least of the words ever told", land.cost(0, 0), 40);
        land.reading(Check.word("ab"), 0, 0);
        Check.due("P26 60 fits", land.cost(1, 0), 60);
        land.move(0, 10, 51, 0);
        Check.due("P26 61 does not fit", land.cost(1, 0), -1);
        land.move(0, 0, 0, 5);
        Check.due("P26 the place now", land.cost(1, 0), -1);
        land.pass(5);
        Check.due("P26 the place of a later day", land.cost(1, 0), 0);
        land.law(1, 101, 1, 26, 26);
        Check.due("P26 laws do not matter", land.cost(1, 0), 0);
        Check.fails("P26 no reading 2", Check.INDEX, () -> land.cost(2, 0));
        Check.fails("P26 no reading -1", Check.INDEX, () -> land.cost(-1, 0));
        Check.fails("P26 no feature 1", Check.INDEX, () -> land.cost(0, 1));
        Check.fails("P26 no feature -1", Check.INDEX, () -> land.cost(0, -1));
    }

    private static void costThere() {
        NameLand land = new NameLand();
        land.feature(0, 0, 0);
        land.reading(1, 0, 0);
        Check.due("P26 no word was told", land.cost(0, 0), -1);
        Check.due("P27 no word was told", land.assign(), -1);
        land.petition(0, 0, 1, 30);
        Check.due("P26 a petition is no name", land.cost(0, 0), -1);
        land.name(0, 0, 1, 50);
        Check.due("P26 a name of a later day", land.cost(0, 0), 0);
        land.end(0, -1, 2);
        land.pass(1);
        Check.due("P26 there now", land.cost(0, 0), 0);
        land.pass(1);
        Check.due("P26 not there now", land.cost(0, 0), -1);
        Check.due("P28 not there now", land.ways(), 0);
    }

    private static void assign() {
        NameLand land = new NameLand();
        Check.due("P27 without readings", land.assign(), 0);
        Check.due("P28 without readings", land.ways(), 1);
        land.reading(Check.word("aa"), 0, 0);
        Check.due("P27 without features", land.assign(), -1);
        Check.due("P28 without features", land.ways(), 0);
        land.feature(0, 3, 4);
        land.name(0, 0, Check.word("aa"), 0);
        Check.due("P27 one", land.assign(), 7);
        Check.due("P28 one", land.ways(), 1);
        land.reading(Check.word("aa"), 0, 0);
        Check.due("P27 each another feature", land.assign(), -1);
        Check.due("P28 each another feature", land.ways(), 0);
        land.feature(0, 9, 9);
        land.name(1, 0, Check.word("ab"), 0);
        Check.due("P27 two", land.assign(), 7 + 28);
        Check.due("P28 two", land.ways(), 2);
        land.feature(0, 99, 99);
        land.name(2, 0, Check.word("aa"), 0);
        Check.due("P28 one that does not fit", land.ways(), 2);
    }

    private static void assignCheapest() {
        NameLand land = new NameLand();
        land.feature(0, 10, 0);
        land.feature(0, 14, 0);
        land.feature(0, 60, 0);
        land.name(0, 0, 1, 0);
        land.name(1, 0, 1, 0);
        land.name(2, 0, 1, 0);
        land.reading(1, 11, 0);
        land.reading(1, 0, 0);
        Check.due("P27 the nearest of each is not the cheapest together", land.assign(), 3 + 10);
        Check.due("P28 readings that fit two and three", land.ways(), 4 + 2);
        land.reading(1, 99, 0);
        Check.due("P27 the third takes the third", land.assign(), 3 + 10 + 39);
        Check.due("P28 the third takes the third", land.ways(), 2);
        land.reading(1, 50, 0);
        Check.due("P27 more readings than features", land.assign(), -1);
        Check.due("P28 more readings than features", land.ways(), 0);
    }

    private static void waysOfMany() {
        NameLand land = new NameLand();
        for (int i = 0; i < 24; i++) {
            land.feature(0, i, 0);
            land.name(i, 0, 1, 0);
        }
        for (int i = 0; i < 4; i++) {
            land.reading(1, 0, 0);
        }
        Check.due("P28 24 features for 4 readings", land.ways(), 24 * 23 * 22 * 21);
        Check.due("P27 24 features for 4 readings", land.assign(), 0 + 1 + 2 + 3);
        Check.due("P28 asked again", land.ways(), 24 * 23 * 22 * 21);
    }

    private static void find() {
        NameLand land = new NameLand();
        land.feature(0, 50, 50);
        land.feature(0, 10, 10);
        long word = Check.word("abc");
        Check.due("P29 none", land.find(word, 0, 0, 0), -1);
        land.name(0, 2, word, 10);
        Check.due("P29 ever told", land.find(word, 0, 0, 0), 0);
        Check.due("P29 not so many", land.find(word, 0, 0, 1), -1);
        Check.due("P29 no more", land.find(word, 0, 0, Integer.MAX_VALUE), -1);
        land.name(1, 0, word, 10);
        Check.due("P29 the nearer one", land.find(word, 0, 0, 0), 1);
        Check.due("P29 the other one", land.find(word, 0, 0, 1), 0);
        Check.due("P29 from the other side", land.find(word, 99, 99, 0), 0);
        land.pass(10);
        land.law(0, 11, 1, 24, 25);
        land.pass(1);
        Check.due("P29 a FORM now goes first", land.find(word, 0, 0, 0), 0);
        Check.due("P29 once told", land.find(word, 0, 0, 1), 1);
        Check.due("P29 a FORM that was not told", land.find(Check.word("xybc"), 0, 0, 0), 1);
        Check.due("P29 a FORM of one", land.find(Check.word("xybc"), 0, 0, 1), -1);
        land.name(1, 0, Check.word("new"), 11);
        Check.due("P29 a FORM that was, and was not told", land.find(Check.word("xybc"), 0, 0, 0), -1);
        land.end(0, 1, 0);
        Check.due("P29 one that has ended", land.find(word, 0, 0, 0), 0);
    }

    private static void findOrder() {
        NameLand land = new NameLand();
        long word = Check.word("zzzzzzzz");
        int[][] places = {{0, 0}, {99, 99}, {50, 50}, {49, 51}, {0, 99}};
        for (int i = 0; i < places.length; i++) {
            land.feature(0, places[i][0], places[i][1]);
            land.name(i, i % 4, word, i == 1 ? 0 : 20);
        }
        int[] want = {1, 2, 3, 4, 0};
        for (int rank = 0; rank < want.length; rank++) {
            Check.due("P29 rank " + rank, land.find(word, 50, 50, rank), want[rank]);
        }
        Check.due("P29 behind the last", land.find(word, 50, 50, 5), -1);
        land.feature(0, 99, 99);
        land.name(5, 2, word, 0);
        Check.due("P29 both FORMs now, as near, the lower one", land.find(word, 50, 50, 0), 1);
        Check.due("P29 both FORMs now, as near, the other one", land.find(word, 50, 50, 1), 5);
        land.name(5, 2, 1, 0);
        land.move(5, 0, 0, 0);
        Check.due("P29 not a FORM now, as near, the other one", land.find(word, 50, 50, 5), 5);
        land.move(4, 50, 50, 0);
        Check.due("P29 the place now", land.find(word, 50, 50, 2), 4);
        Check.due("P29 the far end", land.find(word, 0, 0, 0), 1);
        land.name(0, 3, word, 0);
        Check.due("P29 both FORMs now, the nearer", land.find(word, 0, 0, 0), 0);
        Check.due("P29 each once", land.find(word, 0, 0, 6), -1);
        land.law(1, 0, 26, 26, 26);
        land.name(0, 2, word, 0);
        land.law(2, 1, 26, 26, 26);
        land.pass(1);
        Check.due("P29 12 letters", land.find(Check.word("zzzzzzzzzzzz"), 0, 0, 0), 0);
    }

    private static void findWrong() {
        NameLand land = new NameLand();
        land.feature(0, 0, 0);
        land.name(0, 0, 1, 0);
        Check.fails("P29 rank -1 goes first", Check.INDEX, () -> land.find(0, -1, -1, -1));
        Check.fails("P29 the lowest rank", Check.INDEX, () -> land.find(1, 0, 0, Integer.MIN_VALUE));
        long[] none = {0, -1, 27, Check.word("zzzzzzzzzzzz") + 1, Long.MAX_VALUE, Long.MIN_VALUE};
        for (long word : none) {
            Check.fails("P29 no word " + word, Check.ARGUMENT, () -> land.find(word, 0, 0, 0));
        }
        Check.fails("P29 x -1", Check.ARGUMENT, () -> land.find(1, -1, 0, 0));
        Check.fails("P29 x 100", Check.ARGUMENT, () -> land.find(1, 100, 0, 0));
        Check.fails("P29 y -1", Check.ARGUMENT, () -> land.find(1, 0, -1, 0));
        Check.fails("P29 y 100", Check.ARGUMENT, () -> land.find(1, 0, 100, 0));
    }
}
