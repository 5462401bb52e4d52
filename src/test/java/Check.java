/** What the tests of the project share: each wrong answer is printed, and end() fails if there was one. */
final class Check {
    static final Class<?> INDEX = IndexOutOfBoundsException.class;
    static final Class<?> ARGUMENT = IllegalArgumentException.class;
    static final Class<?> STATE = IllegalStateException.class;

    private static int wrong = 0;
    private static int checks = 0;

    private Check() {
    }

    static void due(String what, long got, long want) {
        checks++;
        if (got != want) {
            wrong++;
            System.out.println(what + ": answered " + got + ", due is " + want);
        }
    }

    static void due(String what, boolean got, boolean want) {
        due(what, got ? 1 : 0, want ? 1 : 0);
    }

    static void due(String what, String got, String want) {
        checks++;
        if (!got.equals(want)) {
            wrong++;
            System.out.println(what + ": answered " + got + ", due is " + want);
        }
    }

    /** The call throws exactly this class. */
    static void fails(String what, Class<?> kind, Runnable call) {
        String got = "nothing";
        try {
            call.run();
        } catch (RuntimeException thrown) {
            got = nameOf(thrown);
        }
        due(what + " throws", got, kind.getName());
    }

    /** The name of an exception, and, if NameLand did not throw it itself, of the class that did. */
    static String nameOf(Throwable thrown) {
        StackTraceElement[] calls = thrown.getStackTrace();
        String thrower = calls.length == 0 ? "NameLand" : calls[0].getClassName();
        boolean isOwn = thrower.startsWith("NameLand") || thrower.startsWith("NaiveLand");
        return isOwn ? thrown.getClass().getName() : thrown.getClass().getName() + " of " + thrower;
    }

    /** The call throws exactly this class, and changes nothing that can be seen. */
    static void fails(String what, NameLand land, Class<?> kind, Runnable call) {
        String before = Seen.all(land);
        fails(what, kind, call);
        due(what + " changes", Seen.all(land), before);
    }

    /** A word of the letters a to z. */
    static long word(String letters) {
        long word = 0;
        for (int i = 0; i < letters.length(); i++) {
            word = word * 27 + letters.charAt(i) - 'a' + 1;
        }
        return word;
    }

    static void end(String name) {
        System.out.println(name + ": " + checks + " checks, " + wrong + " wrong");
        if (wrong != 0) {
            System.exit(1);
        }
    }
}
