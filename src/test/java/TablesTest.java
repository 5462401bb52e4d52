/** Promises 21 to 24: table, write, back, loss. */
public final class TablesTest {
    private static final long LONGEST = Check.word("zzzzzzzzzzzz");

    public static void main(String[] args) {
        table();
        write();
        back();
        loss();
        wrongWords();
        Check.end("TablesTest");
    }

    private static void table() {
        NameLand land = new NameLand();
        for (int i = 1; i <= 26; i++) {
            Check.due("P21 at first itself", land.table(3, i, 27 - i), i);
        }
        Check.due("P21 what was told", land.table(3, 1, 5), 26);
        Check.due("P21 another table", land.table(0, 1, 1), 1);
        Check.fails("P21 no table 4", Check.INDEX, () -> land.table(4, 0, 0));
        Check.fails("P21 no table -1", Check.INDEX, () -> land.table(-1, 1, 1));
        Check.fails("P21 letter 0", Check.ARGUMENT, () -> land.table(0, 0, 1));
        Check.fails("P21 letter 27", Check.ARGUMENT, () -> land.table(0, 27, 1));
        Check.fails("P21 to 0", Check.ARGUMENT, () -> land.table(0, 1, 0));
        Check.fails("P21 to 27", Check.ARGUMENT, () -> land.table(0, 1, 27));
    }

    private static void write() {
        NameLand land = new NameLand();
        Check.due("P22 itself", land.write(Check.word("abcxyz"), 0), Check.word("abcxyz"));
        Check.due("P22 12 letters", land.write(LONGEST, 1), LONGEST);
        land.table(0, 1, 2);
        land.table(0, 2, 3);
        land.table(0, 26, 1);
        Check.due("P22 all letters, each once", land.write(Check.word("aabcz"), 0), Check.word("bbcca"));
        Check.due("P22 12 letters changed", land.write(LONGEST, 0), Check.word("aaaaaaaaaaaa"));
        Check.due("P22 another table", land.write(Check.word("aabcz"), 1), Check.word("aabcz"));
    }

    private static void back() {
        NameLand land = new NameLand();
        Check.due("P23 itself", land.back(Check.word("abcxyz"), 0), Check.word("abcxyz"));
        land.table(0, 1, 2);
        Check.due("P23 told for two letters", land.back(Check.word("cb"), 0), -1);
        Check.due("P23 told for no letter", land.back(Check.word("ac"), 0), -1);
        Check.due("P23 told for one letter", land.back(Check.word("cde"), 0), Check.word("cde"));
        land.table(0, 2, 26);
        land.table(0, 26, 1);
        Check.due("P23 read back", land.back(Check.word("abzc"), 0), Check.word("zabc"));
        Check.due("P23 12 letters", land.back(LONGEST, 0), Check.word("bbbbbbbbbbbb"));
        Check.due("P23 what was written", land.back(land.write(Check.word("banzai"), 0), 0), Check.word("banzai"));
    }

    private static void loss() {
        NameLand land = new NameLand();
        Check.due("P24 nothing", land.loss(2), 0);
        land.table(2, 1, 2);
        Check.due("P24 one", land.loss(2), 1);
        land.table(2, 2, 1);
        Check.due("P24 changed places", land.loss(2), 0);
        for (int i = 1; i <= 26; i++) {
            land.table(2, i, 26);
        }
        Check.due("P24 all but one", land.loss(2), 25);
        Check.due("P24 another table", land.loss(3), 0);
        Check.fails("P24 no table 4", Check.INDEX, () -> land.loss(4));
        Check.fails("P24 no table -1", Check.INDEX, () -> land.loss(-1));
    }

    private static void wrongWords() {
        NameLand land = new NameLand();
        long[] none = {0, -1, 27, 28 * 27, LONGEST + 1, Check.word("aaaaaaaaaaaa") * 27 + 1, Long.MAX_VALUE, Long.MIN_VALUE};
        for (long word : none) {
            Check.fails("P22 no word " + word, Check.ARGUMENT, () -> land.write(word, 0));
            Check.fails("P23 no word " + word, Check.ARGUMENT, () -> land.back(word, 0));
            Check.fails("P22 no table goes first", Check.INDEX, () -> land.write(word, 4));
            Check.fails("P23 no table goes first", Check.INDEX, () -> land.back(word, -1));
        }
    }
}
