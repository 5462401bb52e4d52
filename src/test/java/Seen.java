import java.util.ArrayList;
import java.util.List;

/**
 * All that can be seen of a land from outside, as a text: what it answers, and what it still takes. Each view has a
 * land of its own, made anew, so that none needs more than 300 calls behind its recipe.
 */
final class Seen {
    /** A look at a land, which may change it. */
    private interface View {
        void see(NameLand land, StringBuilder seen);
    }

    /** A call of which the answer is seen, or which exception it throws. */
    private interface Asked {
        long answer();
    }

    private static final int[] DAYS = {0, 1, 10, 40, 9999};
    private static final int MOST = 120;

    private Seen() {
    }

    static String all(Recipe recipe) {
        List<View> views = new ArrayList<>();
        int features = countFeatures(recipe);
        for (int i = 0; i < features; i++) {
            int feature = i;
            views.add((land, seen) -> onDays(land, seen, feature));
            views.add((land, seen) -> now(land, seen, feature));
            views.add((land, seen) -> placesLeft(land, seen, feature));
        }
        views.add(Seen::petitions);
        views.add(Seen::votes);
        views.add(Seen::protests);
        views.add(Seen::decisions);
        views.add(Seen::tables);
        views.add(Seen::days);
        views.add(Seen::orders);
        views.add(Seen::ends);
        views.add(Seen::roomForNames);
        views.add(Seen::roomForLaws);
        views.add(Seen::roomForOthers);
        StringBuilder seen = new StringBuilder().append(features);
        for (View view : views) {
            view.see(Check.land(recipe), seen.append('\n'));
        }
        return seen.toString();
    }

    private static int countFeatures(Recipe recipe) {
        NameLand land = Check.land(recipe);
        int count = 0;
        while (count < MOST && takes(land, count)) {
            count++;
        }
        return count;
    }

    private static boolean takes(NameLand land, int feature) {
        try {
            land.sign(feature);
            return true;
        } catch (IndexOutOfBoundsException none) {
            return false;
        }
    }

    /** Adds an answer; false if there was none. */
    private static boolean add(StringBuilder seen, Asked asked) {
        try {
            seen.append(' ').append(asked.answer());
            return true;
        } catch (RuntimeException thrown) {
            seen.append(' ').append(Check.nameOf(thrown));
            return false;
        }
    }

    private static void onDays(NameLand land, StringBuilder seen, int feature) {
        for (int day : DAYS) {
            for (int known : DAYS) {
                for (int what = 0; what <= 4; what++) {
                    seen.append(' ').append(land.of(feature, what, day, known));
                }
                for (int tongue = 0; tongue < 4; tongue++) {
                    seen.append(' ').append(land.form(feature, tongue, day, known));
                }
            }
            seen.append(' ').append(land.shown(feature, day));
        }
    }

    private static void now(NameLand land, StringBuilder seen, int feature) {
        for (int i = 0; i < 4; i++) {
            int tongue = i;
            seen.append(' ').append(land.display(feature, tongue));
            for (int subscriber = 0; subscriber < 4; subscriber++) {
                seen.append(' ').append(land.copy(subscriber, feature, tongue));
            }
            add(seen, () -> land.cost(tongue, feature));
            seen.append(' ').append(land.census(feature, tongue, 0));
        }
        seen.append(' ').append(land.sign(feature));
    }

    /** How many places, and how often a whole, can be told. */
    private static void placesLeft(NameLand land, StringBuilder seen, int feature) {
        count(seen, () -> land.move(feature, 1, 2, 3));
        count(seen, () -> land.part(feature, -1, 3));
    }

    /** Adds how often a call can be made. */
    private static void count(StringBuilder seen, Runnable call) {
        int count = 0;
        try {
            while (count < MOST) {
                call.run();
                count++;
            }
        } catch (RuntimeException thrown) {
            seen.append(' ').append(Check.nameOf(thrown));
        }
        seen.append(' ').append(count);
    }

    private static void petitions(NameLand land, StringBuilder seen) {
        for (int i = 0; i < 80; i++) {
            int asked = i;
            add(seen, () -> land.petitionOf(asked / 5, asked % 5));
        }
    }

    private static void votes(NameLand land, StringBuilder seen) {
        for (int i = 0; i < 144; i++) {
            int asked = i;
            add(seen, () -> land.vote(asked / 9, asked % 9, asked % 2 == 0));
        }
    }

    private static void protests(NameLand land, StringBuilder seen) {
        for (int i = 0; i < 128; i++) {
            int asked = i;
            add(seen, () -> land.protest(asked / 8, asked % 8) ? 1 : 0);
        }
    }

    private static void decisions(NameLand land, StringBuilder seen) {
        for (int i = 0; i < 16; i++) {
            int petition = i;
            add(seen, () -> land.decide(petition));
            add(seen, () -> land.appeal(petition));
        }
    }

    private static void tables(NameLand land, StringBuilder seen) {
        for (int table = 0; table < 4; table++) {
            seen.append(' ').append(land.loss(table));
            for (int letter = 1; letter <= 26; letter++) {
                seen.append(' ').append(land.write(letter, table)).append(' ').append(land.back(letter, table));
            }
        }
    }

    private static void days(NameLand land, StringBuilder seen) {
        seen.append(' ').append(land.assign()).append(' ').append(land.ways()).append(' ').append(land.budget(2));
        for (int subscriber = 0; subscriber < 4; subscriber++) {
            seen.append(' ').append(land.pull(subscriber));
        }
        for (int rank = 0; rank < 4; rank++) {
            seen.append(' ').append(land.find(1, 50, 50, rank));
        }
        add(seen, () -> land.pass(1));
    }

    private static void orders(NameLand land, StringBuilder seen) {
        for (int i = 0; i < 24; i++) {
            int feature = i;
            add(seen, () -> land.order(feature));
        }
        for (int day = 0; day < 3; day++) {
            add(seen, () -> land.pass(1));
            for (int i = 0; i < 24; i++) {
                int feature = i;
                add(seen, () -> land.sign(feature));
            }
        }
    }

    private static void ends(NameLand land, StringBuilder seen) {
        for (int i = 0; i < 24; i++) {
            int feature = i;
            add(seen, () -> {
                land.end(feature, -1, 9999);
                return 1;
            });
        }
    }

    private static void roomForNames(NameLand land, StringBuilder seen) {
        count(seen, () -> land.name(0, 0, Check.word("seenonly"), 9999));
    }

    private static void roomForLaws(NameLand land, StringBuilder seen) {
        count(seen, () -> land.law(0, 0, 1, 1, 0));
        count(seen, () -> land.except(0, 0, 0));
    }

    private static void roomForOthers(NameLand land, StringBuilder seen) {
        count(seen, () -> land.petition(0, 0, 1, 9999));
        count(seen, () -> land.reading(1, 0, 0));
        count(seen, () -> land.feature(0, 0, 0));
    }
}
