import java.util.IdentityHashMap;
import java.util.Map;

/** What the tests of the project share: each wrong answer is printed, and end() fails if there was one. */
final class Check {
    static final Class<?> INDEX = IndexOutOfBoundsException.class;
    static final Class<?> ARGUMENT = IllegalArgumentException.class;
    static final Class<?> STATE = IllegalStateException.class;

    /** A call on a land. */
    interface Call {
        void on(NameLand land);
    }

    /** A call on a land with a number that may be out of range. */
    interface NumberCall {
        void on(NameLand land, int number);
    }

    /** A call on a land with a word that may be none. */
    interface WordCall {
        void on(NameLand land, long word);
    }

    private static final Map<Recipe, String> SEEN = new IdentityHashMap<>();
    private static String test = "";
    private static int wrong = 0;
    private static int checks = 0;

    private Check() {
    }

    /** All checks from here on belong to this test. */
    static void begin(String name) {
        test = name + ": ";
    }

    static void due(String what, String got, String want) {
        checks++;
        if (!got.equals(want)) {
            wrong++;
            System.out.println(test + what + ": answered " + got + ", due is " + want);
        }
    }

    static void due(String what, long got, long want) {
        due(what, Long.toString(got), Long.toString(want));
    }

    static void due(String what, boolean got, boolean want) {
        due(what, Boolean.toString(got), Boolean.toString(want));
    }

    /** The call throws exactly this class. */
    static void fails(String what, Class<?> kind, Runnable call) {
        String got = "nothing";
        try {
            call.run();
        } catch (RuntimeException thrown) {
            got = nameOf(thrown);
        }
        due(what + " throws", got, kind.getName());
    }

    /** The name of an exception, and, if NameLand did not throw it itself, of the class that did. */
    static String nameOf(Throwable thrown) {
        StackTraceElement[] calls = thrown.getStackTrace();
        String thrower = calls.length == 0 ? "NameLand" : calls[0].getClassName();
        boolean isOwn = thrower.startsWith("NameLand") || thrower.startsWith("NaiveLand");
        return isOwn ? thrown.getClass().getName() : thrown.getClass().getName() + " of " + thrower;
    }

    static NameLand land(Recipe recipe) {
        NameLand land = new NameLand();
        recipe.make(land);
        return land;
    }

    /** The call throws nothing. */
    static void takes(String what, Recipe recipe, Call call) {
        String got = "nothing";
        try {
            call.on(land(recipe));
        } catch (RuntimeException thrown) {
            got = nameOf(thrown);
        }
        due(what + " throws", got, "nothing");
    }

    /** The call throws exactly this class, and changes nothing that can be seen, now or by later calls. */
    static void refuses(String what, Recipe recipe, Class<?> kind, Call call) {
        NameLand land = land(recipe);
        fails(what, kind, () -> call.on(land));
        Recipe refused = made -> {
            recipe.make(made);
            swallow(made, call);
        };
        due(what + " changes", Seen.all(refused), SEEN.computeIfAbsent(recipe, Seen::all));
    }

    private static void swallow(NameLand land, Call call) {
        try {
            call.on(land);
        } catch (RuntimeException refused) {
            // What it throws is looked at elsewhere.
        }
    }

    /** The lowest and the highest number are taken; those next to them, and the farthest, are refused. */
    static void range(Recipe recipe, Class<?> kind, int lowest, int highest, NumberCall call) {
        takes("the lowest, " + lowest + ",", recipe, land -> call.on(land, lowest));
        takes("the highest, " + highest + ",", recipe, land -> call.on(land, highest));
        int[] refused = {lowest - 1, highest + 1, Integer.MIN_VALUE, Integer.MAX_VALUE};
        for (int number : refused) {
            refuses("" + number, recipe, kind, land -> call.on(land, number));
        }
    }

    /** Words of 1 letter and of the most letters are taken; 0, longer ones and what has no letters is refused. */
    static void words(Recipe recipe, int mostLetters, WordCall call) {
        long lowest = word("aaaaaaaaaaaa".substring(0, mostLetters));
        long highest = word("zzzzzzzzzzzz".substring(0, mostLetters));
        long[] taken = {1, 26, 28, lowest, highest};
        for (long word : taken) {
            takes("the word " + word, recipe, land -> call.on(land, word));
        }
        long[] refused = {0, -1, -28, highest + 1, lowest * 27 + 1, highest * 27 + 26, Long.MIN_VALUE, Long.MAX_VALUE};
        for (long word : refused) {
            refuses("no word " + word, recipe, ARGUMENT, land -> call.on(land, word));
        }
        // One letter of the longest word is 0, from the last to the second one.
        long place = 26;
        for (int i = 1; i < mostLetters; i++) {
            long word = highest - place;
            refuses("no letter at " + i + " from the end", recipe, ARGUMENT, land -> call.on(land, word));
            place *= 27;
        }
        refuses("27, one letter and none", recipe, ARGUMENT, land -> call.on(land, 27));
    }

    /** A word of the letters a to z. */
    static long word(String letters) {
        long word = 0;
        for (int i = 0; i < letters.length(); i++) {
            word = word * 27 + letters.charAt(i) - 'a' + 1;
        }
        return word;
    }

    static void end(String name) {
        System.out.println(name + ": " + checks + " checks, " + wrong + " wrong");
        if (wrong != 0) {
            System.exit(1);
        }
    }
}
