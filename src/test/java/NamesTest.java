/** Promises 7 to 10: name, law, except, form. */
public final class NamesTest {
    public static void main(String[] args) {
        name();
        nameWrong();
        nameLimit();
        refused();
        refusedThen();
        law();
        lawLimit();
        lawOrder();
        except();
        exceptLimit();
        form();
        formLength();
        Check.end("NamesTest");
    }

    private static NameLand withFeatures(int kind, int count) {
        NameLand land = new NameLand();
        for (int i = 0; i < count; i++) {
            land.feature(kind, i, i);
        }
        return land;
    }

    private static void name() {
        NameLand land = withFeatures(0, 2);
        Check.due("P7 the first", land.name(0, 0, Check.word("ab"), 10), 1);
        Check.due("P7 of all features", land.name(1, 3, Check.word("z"), 0), 2);
        Check.due("P7 ahead", land.form(0, 0, 9, 0), 0);
        Check.due("P7 from its day", land.form(0, 0, 10, 0), Check.word("ab"));
        Check.due("P7 in that tongue only", land.form(0, 1, 10, 0), 0);
        Check.due("P7 of that feature only", land.form(1, 0, 10, 0), 0);
        land.pass(2);
        Check.due("P7 the third", land.name(0, 0, Check.word("cd"), 5), 3);
        Check.due("P7 the latest day counts", land.form(0, 0, 10, 2), Check.word("ab"));
        Check.due("P7 until ahead of the next", land.form(0, 0, 9, 2), Check.word("cd"));
        Check.due("P7 as known ahead", land.form(0, 0, 9, 1), 0);
        land.name(0, 0, Check.word("ef"), 10);
        Check.due("P7 of one day the last told", land.form(0, 0, 10, 2), Check.word("ef"));
        Check.due("P7 of one day, as known ahead", land.form(0, 0, 10, 1), Check.word("ab"));
    }

    private static void nameWrong() {
        NameLand land = withFeatures(0, 1);
        Check.fails("P7 no feature", Check.INDEX, () -> land.name(1, 0, 0, -1));
        Check.fails("P7 no tongue 4", Check.INDEX, () -> land.name(0, 4, 0, -1));
        Check.fails("P7 no tongue -1", Check.INDEX, () -> land.name(0, -1, 1, 0));
        long[] none = {0, -1, 27, 27 * 27 + 1, Check.word("ab") * 27, 282429536481L, Check.word("aaaaaaaaa"),
            Long.MAX_VALUE, Long.MIN_VALUE, -28};
        for (long word : none) {
            Check.fails("P7 no word " + word, Check.ARGUMENT, () -> land.name(0, 0, word, 0));
        }
        Check.fails("P7 day -1", Check.ARGUMENT, () -> land.name(0, 0, 1, -1));
        Check.fails("P7 day 10000", Check.ARGUMENT, () -> land.name(0, 0, 1, 10000));
        Check.due("P7 8 letters, none told ahead", land.name(0, 0, Check.word("zzzzzzzz"), 9999), 1);
        Check.due("P7 lowest word", land.name(0, 3, 1, 0), 2);
    }

    private static void nameLimit() {
        NameLand land = withFeatures(0, 3);
        for (int i = 0; i < 100; i++) {
            Check.due("P7 count", land.name(i % 2, i % 4, 1 + i % 26, i), i + 1);
        }
        Check.fails("P7 a 101st", Check.STATE, () -> land.name(2, 0, 1, 0));
        Check.fails("P7 index ahead of state", Check.INDEX, () -> land.name(3, 0, 1, 0));
        Check.fails("P7 argument ahead of state", Check.ARGUMENT, () -> land.name(0, 0, 27, 0));
        Check.due("P7 the 100th", land.form(1, 3, 99, 0), 1 + 99 % 26);
    }

    private static void refused() {
        NameLand land = new NameLand();
        land.feature(0, 0, 0);
        land.feature(1, 0, 0);
        land.feature(NameLand.STREET, 1, 1);
        land.feature(NameLand.STREET, 2, 2);
        land.feature(4, 3, 3);
        long word = Check.word("oak");
        land.part(2, 0, 0);
        land.part(4, 0, 0);
        land.name(2, 0, word, 10);
        Check.due("P7 a STREET that is a part of nothing", land.name(3, 1, word, 10), 2);
        land.part(3, 0, 10);
        Check.fails("P7 refused", Check.STATE, () -> land.name(3, 0, word, 10));
        Check.fails("P7 refused later", Check.STATE, () -> land.name(3, 0, word, 11));
        Check.due("P7 its own word again", land.name(2, 0, word, 20), 3);
        Check.due("P7 another tongue", land.name(3, 2, word, 10), 4);
        Check.due("P7 another word", land.name(3, 0, Check.word("elm"), 10), 5);
        Check.due("P7 another kind", land.name(4, 0, word, 10), 6);
        Check.due("P7 ahead of being a part, and of the name", land.name(3, 0, word, 9), 7);
        land.part(3, 1, 30);
        Check.due("P7 a part of another", land.name(3, 0, word, 30), 8);
        Check.fails("P7 argument ahead of being refused", Check.ARGUMENT, () -> land.name(3, 0, word, 10000));
    }

    private static void refusedThen() {
        NameLand land = new NameLand();
        land.feature(0, 0, 0);
        land.feature(NameLand.STREET, 1, 1);
        land.pass(10);
        land.feature(NameLand.STREET, 2, 2);
        long word = Check.word("ab");
        land.part(1, 0, 0);
        land.part(2, 0, 0);
        land.name(2, 0, word, 0);
        Check.due("P7 the other STREET is not there yet", land.name(1, 0, word, 9), 2);
        Check.fails("P7 the other STREET is there", Check.STATE, () -> land.name(1, 0, word, 10));
        land.law(0, 20, 1, 3, 0);
        Check.fails("P7 the FORM of the other counts", Check.STATE, () -> land.name(1, 0, Check.word("cb"), 20));
        Check.due("P7 the FORM of the other is not the word", land.name(1, 0, word, 20), 3);
        land.pass(5);
        land.end(2, -1, 15);
        Check.due("P7 the other STREET has ended", land.name(1, 0, Check.word("cb"), 20), 4);
        Check.fails("P7 the other STREET has not ended", Check.STATE, () -> land.name(1, 0, word, 14));
        Check.due("P7 as known ahead nothing changes", land.form(1, 0, 20, 14), word);
    }

    private static void law() {
        NameLand land = withFeatures(0, 2);
        land.name(0, 1, Check.word("abca"), 5);
        Check.due("P8 the first", land.law(1, 10, 1, 2, 0), 1);
        Check.due("P8 in all", land.law(2, 10, 1, 9, 9), 2);
        Check.due("P8 ahead of its day", land.form(0, 1, 9, 0), Check.word("abca"));
        Check.due("P8 each letter", land.form(0, 1, 10, 0), Check.word("bbcb"));
        land.pass(1);
        Check.due("P8 two letters", land.law(1, 20, 2, 24, 25), 3);
        Check.due("P8 in place of a letter", land.form(0, 1, 20, 1), Check.word("xyxycxy"));
        Check.due("P8 as known ahead", land.form(0, 1, 20, 0), Check.word("bbcb"));
        Check.due("P8 nothing", land.law(1, 30, 24, 0, 0), 4);
        Check.due("P8 in place of a letter nothing", land.form(0, 1, 30, 1), Check.word("yycy"));
        land.law(1, 40, 25, 0, 0);
        land.law(1, 41, 3, 0, 0);
        Check.due("P8 without letters", land.form(0, 1, 41, 1), 0);
        Check.due("P8 a law of the last day", land.law(1, 9999, 26, 26, 25), 7);
        land.name(0, 1, Check.word("z"), 9998);
        Check.due("P8 ahead of the last day", land.form(0, 1, 9998, 1), Check.word("z"));
        Check.due("P8 on the last day", land.form(0, 1, 9999, 1), Check.word("zy"));
    }

    private static void lawLimit() {
        NameLand land = withFeatures(0, 1);
        land.name(0, 0, Check.word("abcz"), 0);
        Check.fails("P8 no tongue", Check.INDEX, () -> land.law(4, -1, 0, 0, 0));
        Check.fails("P8 no tongue -1", Check.INDEX, () -> land.law(-1, 0, 1, 1, 1));
        int[][] wrong = {{-1, 1, 1, 1}, {10000, 1, 1, 1}, {0, 0, 1, 1}, {0, 27, 1, 1}, {0, 1, -1, 0}, {0, 1, 27, 1},
            {0, 1, 1, -1}, {0, 1, 1, 27}, {0, 1, 0, 1}, {0, 1, 0, -1}};
        for (int[] w : wrong) {
            Check.fails("P8 out of range " + w[0] + " " + w[1] + " " + w[2] + " " + w[3], Check.ARGUMENT,
                () -> land.law(0, w[0], w[1], w[2], w[3]));
        }
        for (int i = 0; i < 12; i++) {
            Check.due("P8 count", land.law(i % 4, i + 1, i + 1, i + 2, 0), i + 1);
        }
        Check.fails("P8 a 13th", Check.STATE, () -> land.law(3, 50, 26, 1, 0));
        Check.fails("P8 argument ahead of state", Check.ARGUMENT, () -> land.law(3, 50, 27, 1, 0));
        Check.fails("P8 index ahead of state", Check.INDEX, () -> land.law(4, 50, 26, 1, 0));
    }

    private static void lawOrder() {
        NameLand land = withFeatures(0, 1);
        land.name(0, 0, Check.word("a"), 0);
        land.law(0, 20, 2, 3, 0);
        land.law(0, 10, 1, 2, 0);
        Check.due("P8 by their days", land.form(0, 0, 20, 0), Check.word("c"));
        land.law(0, 20, 3, 4, 0);
        land.law(0, 20, 2, 5, 0);
        Check.due("P8 of one day as told", land.form(0, 0, 20, 0), Check.word("d"));
        land.name(0, 1, Check.word("ab"), 0);
        land.law(1, 5, 2, 1, 1);
        land.law(1, 5, 1, 2, 1);
        Check.due("P8 each at once", land.form(0, 1, 5, 0), Check.word("bababa"));
    }

    private static void except() {
        NameLand land = withFeatures(0, 2);
        land.name(0, 0, Check.word("a"), 0);
        land.name(1, 0, Check.word("a"), 0);
        land.name(0, 1, Check.word("a"), 0);
        land.law(0, 10, 1, 2, 0);
        land.law(0, 20, 2, 3, 0);
        land.law(0, 30, 3, 4, 0);
        land.law(1, 20, 1, 5, 0);
        land.pass(1);
        land.except(0, 0, 20);
        Check.due("P9 a law with that day does not apply", land.form(0, 0, 20, 1), Check.word("b"));
        Check.due("P9 a later law does not apply", land.form(0, 0, 30, 1), Check.word("b"));
        Check.due("P9 as known ahead", land.form(0, 0, 30, 0), Check.word("d"));
        Check.due("P9 of that feature only", land.form(1, 0, 30, 1), Check.word("d"));
        Check.due("P9 of that tongue only", land.form(0, 1, 30, 1), Check.word("e"));
        land.pass(1);
        land.except(0, 0, 25);
        Check.due("P9 the earliest counts, not the last", land.form(0, 0, 30, 2), Check.word("b"));
        land.except(0, 0, 10);
        Check.due("P9 an earlier one", land.form(0, 0, 30, 2), Check.word("a"));
        Check.due("P9 an earlier one, as known ahead", land.form(0, 0, 30, 1), Check.word("b"));
        land.except(1, 0, 21);
        Check.due("P9 a law of the day ahead applies", land.form(1, 0, 9999, 2), Check.word("c"));
        land.except(1, 0, 0);
        Check.due("P9 day 0", land.form(1, 0, 9999, 2), Check.word("a"));
    }

    private static void exceptLimit() {
        NameLand land = withFeatures(0, 2);
        land.name(0, 0, Check.word("a"), 0);
        land.name(1, 0, Check.word("a"), 0);
        land.law(0, 1, 1, 2, 0);
        Check.fails("P9 no feature", Check.INDEX, () -> land.except(2, 0, -1));
        Check.fails("P9 no tongue", Check.INDEX, () -> land.except(0, 4, -1));
        Check.fails("P9 no tongue -1", Check.INDEX, () -> land.except(0, -1, 0));
        Check.fails("P9 day -1", Check.ARGUMENT, () -> land.except(0, 0, -1));
        Check.fails("P9 day 10000", Check.ARGUMENT, () -> land.except(0, 0, 10000));
        for (int i = 0; i < 40; i++) {
            land.except(0, i % 4, 100 + i);
        }
        Check.fails("P9 a 41st of all features", Check.STATE, () -> land.except(1, 0, 0));
        Check.fails("P9 argument ahead of state", Check.ARGUMENT, () -> land.except(1, 0, -1));
    }

    private static void form() {
        NameLand land = withFeatures(0, 1);
        Check.fails("P10 no feature", Check.INDEX, () -> land.form(1, 0, -1, 0));
        Check.fails("P10 no tongue 4", Check.INDEX, () -> land.form(0, 4, -1, 0));
        Check.fails("P10 no tongue -1", Check.INDEX, () -> land.form(0, -1, 0, 0));
        Check.fails("P10 day -1", Check.ARGUMENT, () -> land.form(0, 0, -1, 0));
        Check.fails("P10 day 10000", Check.ARGUMENT, () -> land.form(0, 0, 10000, 0));
        Check.fails("P10 known -1", Check.ARGUMENT, () -> land.form(0, 0, 0, -1));
        Check.fails("P10 known 10000", Check.ARGUMENT, () -> land.form(0, 0, 0, 10000));
        Check.due("P10 without a name", land.form(0, 0, 9999, 9999), 0);
        land.name(0, 0, Check.word("abc"), 10);
        land.law(0, 10, 1, 26, 0);
        land.law(0, 9, 1, 25, 0);
        Check.due("P10 a law of the day of the name, or ahead, does not apply", land.form(0, 0, 50, 0), Check.word("abc"));
        land.law(0, 11, 1, 2, 0);
        Check.due("P10 a law behind it applies", land.form(0, 0, 11, 0), Check.word("bbc"));
        land.name(0, 0, Check.word("aa"), 12);
        Check.due("P10 a new name stands behind older laws", land.form(0, 0, 12, 0), Check.word("aa"));
        Check.due("P10 the name ahead, with its laws", land.form(0, 0, 11, 0), Check.word("bbc"));
        land.end(0, -1, 0);
        Check.due("P10 also of one that has ended", land.form(0, 0, 12, 0), Check.word("aa"));
    }

    private static void formLength() {
        NameLand land = withFeatures(0, 1);
        land.name(0, 0, Check.word("abcdefgh"), 0);
        land.law(0, 1, 1, 1, 2);
        Check.due("P10 9 letters", land.form(0, 0, 1, 0), Check.word("abbcdefgh"));
        land.law(0, 2, 2, 2, 3);
        Check.due("P10 11 letters", land.form(0, 0, 2, 0), Check.word("abcbccdefgh"));
        land.law(0, 3, 3, 3, 4);
        Check.due("P10 the first 12 of 14 letters", land.form(0, 0, 3, 0), Check.word("abcdbcdcddef"));
        land.law(0, 4, 1, 0, 0);
        Check.due("P10 behind each law, the rest is gone", land.form(0, 0, 4, 0), Check.word("bcdbcdcddef"));
        land.law(0, 5, 6, 25, 26);
        Check.due("P10 12 letters by two of them", land.form(0, 0, 5, 0), Check.word("bcdbcdcddeyz"));
        land.law(0, 6, 25, 24, 23);
        Check.due("P10 the 12th is the first of two", land.form(0, 0, 6, 0), Check.word("bcdbcdcddexw"));
        land.law(0, 7, 23, 1, 1);
        Check.due("P10 only one of two stays", land.form(0, 0, 7, 0), Check.word("bcdbcdcddexa"));
    }
}
