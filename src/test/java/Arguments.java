import java.util.ArrayList;
import java.util.Arrays;
import java.util.List;

/**
 * A call with its arguments, each with a value that is taken and values that are refused. All of them are tried
 * together: what does not exist goes first, then what is out of range, then what is not possible now.
 */
final class Arguments {
    /** A call with all its arguments. */
    interface Call {
        void on(NameLand land, long[] a);
    }

    private final Call call;
    private final List<long[]> values = new ArrayList<>();
    private final List<Class<?>[]> kinds = new ArrayList<>();

    Arguments(Call call) {
        this.call = call;
    }

    /** An argument that has to exist. */
    Arguments index(long taken, long... none) {
        return both(taken, none, new long[0]);
    }

    /** An argument that has to be in its range. */
    Arguments range(long taken, long... out) {
        return both(taken, new long[0], out);
    }

    /** An argument that has to exist, and to be in its range. */
    Arguments both(long taken, long[] none, long[] out) {
        long[] all = new long[1 + none.length + out.length];
        Class<?>[] kind = new Class<?>[all.length];
        all[0] = taken;
        for (int i = 0; i < none.length; i++) {
            all[1 + i] = none[i];
            kind[1 + i] = Check.INDEX;
        }
        for (int i = 0; i < out.length; i++) {
            all[1 + none.length + i] = out[i];
            kind[1 + none.length + i] = Check.ARGUMENT;
        }
        values.add(all);
        kinds.add(kind);
        return this;
    }

    /** Tries all of them on a land in which the call is possible. */
    Arguments possible(Recipe recipe) {
        tryAll(recipe, null);
        return this;
    }

    /** Tries all of them on a land in which the call is not possible now. */
    Arguments impossible(Recipe recipe) {
        tryAll(recipe, Check.STATE);
        return this;
    }

    private void tryAll(Recipe recipe, Class<?> otherwise) {
        int[] chosen = new int[values.size()];
        do {
            tryOne(recipe, chosen, otherwise);
        } while (next(chosen));
    }

    private boolean next(int[] chosen) {
        for (int i = 0; i < chosen.length; i++) {
            chosen[i]++;
            if (chosen[i] < values.get(i).length) {
                return true;
            }
            chosen[i] = 0;
        }
        return false;
    }

    private void tryOne(Recipe recipe, int[] chosen, Class<?> otherwise) {
        long[] a = new long[chosen.length];
        Class<?> due = otherwise;
        for (int i = 0; i < chosen.length; i++) {
            a[i] = values.get(i)[chosen[i]];
            Class<?> kind = kinds.get(i)[chosen[i]];
            if (kind != null && due != Check.INDEX) {
                due = kind;
            }
        }
        String what = Arrays.toString(a);
        if (due == null) {
            Check.takes(what, recipe, land -> call.on(land, a));
        } else {
            Check.refuses(what, recipe, due, land -> call.on(land, a));
        }
    }
}
