import java.util.ArrayList;
import java.util.Arrays;
import java.util.Comparator;
import java.util.HashMap;
import java.util.List;
import java.util.Map;

/**
 * The document once more, written another way: all that is told is kept in one list, words are texts,
 * and every question goes through the list anew. The random runs compare NameLand with it.
 */
final class NaiveLand {
    /** Something that was told: of a sort, on a day, for a day, with numbers. */
    private record Told(String sort, int on, int day, int[] n, String word) {
    }

    private final List<Told> told = new ArrayList<>();
    private final List<Integer> kinds = new ArrayList<>();
    private final Map<String, Integer> census = new HashMap<>();
    private final Map<Integer, int[]> disputes = new HashMap<>();
    private final int[][] tables = new int[4][27];
    private final List<Told> readings = new ArrayList<>();
    private final List<Told> petitions = new ArrayList<>();
    private final List<int[]> states = new ArrayList<>();
    private final List<Map<Integer, Boolean>> votes = new ArrayList<>();
    private final List<boolean[]> protests = new ArrayList<>();
    private final Map<Told, Integer> reversed = new HashMap<>();
    private final Map<Integer, Told> namesOfPetitions = new HashMap<>();
    private final int[] copies = new int[4];
    private final List<Integer> orders = new ArrayList<>();
    private final long[] signs = new long[24];
    private int budget = 2;
    private int today = 0;

    NaiveLand() {
        for (int[] table : tables) {
            Arrays.setAll(table, i -> i);
        }
    }

    private static void index(boolean... exist) {
        for (boolean e : exist) {
            if (!e) {
                throw new IndexOutOfBoundsException();
            }
        }
    }

    private static void argument(boolean... fine) {
        for (boolean f : fine) {
            if (!f) {
                throw new IllegalArgumentException();
            }
        }
    }

    private static void state(boolean... fine) {
        for (boolean f : fine) {
            if (!f) {
                throw new IllegalStateException();
            }
        }
    }

    private static boolean within(long value, long low, long high) {
        return low <= value && value <= high;
    }

    private boolean isFeature(int feature) {
        return within(feature, 0, kinds.size() - 1);
    }

    private static boolean isDay(int day) {
        return within(day, 0, 9999);
    }

    private static String text(long word) {
        if (word <= 0) {
            return "";
        }
        StringBuilder text = new StringBuilder();
        for (char c : Long.toString(word, 27).toCharArray()) {
            int letter = Character.digit(c, 27);
            text.append(letter == 0 ? '?' : (char) ('a' + letter - 1));
        }
        return text.toString();
    }

    private static long number(String text) {
        return Check.word(text);
    }

    private static boolean isWord(long word, int most) {
        String text = text(word);
        return !text.isEmpty() && text.length() <= most && text.indexOf('?') < 0;
    }

    private Told latest(String sort, int feature, int day, int known) {
        return told.stream()
            .filter(t -> t.sort.equals(sort) && t.n[0] == feature && t.day <= day && t.on <= known)
            .filter(t -> reversed.getOrDefault(t, Integer.MAX_VALUE) > known)
            .reduce((a, b) -> b.day >= a.day ? b : a).orElse(null);
    }

    private long count(String sort, int feature) {
        return told.stream().filter(t -> t.sort.equals(sort) && (feature < 0 || t.n[0] == feature)).count();
    }

    private void tell(String sort, int day, String word, int... n) {
        told.add(new Told(sort, today, day, n, word));
    }

    int feature(int kind, int x, int y) {
        argument(within(kind, 0, 5), within(x, 0, 99), within(y, 0, 99));
        state(kinds.size() < 24);
        kinds.add(kind);
        tell("there", today, "", kinds.size() - 1);
        tell("place", today, "", kinds.size() - 1, x, y);
        return kinds.size() - 1;
    }

    void move(int feature, int x, int y, int day) {
        index(isFeature(feature));
        argument(within(x, 0, 99), within(y, 0, 99), isDay(day));
        state(count("place", feature) < 40);
        tell("place", day, "", feature, x, y);
    }

    void part(int feature, int whole, int day) {
        index(isFeature(feature), whole == -1 || isFeature(whole));
        argument(whole < feature, isDay(day));
        state(count("part", feature) < 40);
        tell("part", day, "", feature, whole);
    }

    void end(int feature, int in, int day) {
        index(isFeature(feature), in == -1 || isFeature(in));
        argument(in != feature, isDay(day));
        state(count("end", feature) == 0);
        tell("end", day, "", feature, in);
    }

    private boolean isThere(int feature, int day, int known) {
        return latest("there", feature, day, known) != null && latest("end", feature, day, known) == null;
    }

    int of(int feature, int what, int day, int known) {
        index(isFeature(feature));
        argument(within(what, 0, 4), isDay(day), isDay(known));
        String[] sorts = {"there", "place", "place", "part", "end"};
        Told t = latest(sorts[what], feature, day, known);
        if (what == 0) {
            return isThere(feature, day, known) ? 1 : 0;
        }
        return t == null ? -1 : t.n[what == 2 ? 2 : 1];
    }

    private boolean isRefused(int feature, int tongue, long word, int day) {
        int whole = of(feature, 3, day, today);
        if (kinds.get(feature) != 5 || whole == -1) {
            return false;
        }
        for (int other = 0; other < kinds.size(); other++) {
            if (other != feature && kinds.get(other) == 5 && isThere(other, day, today)
                && of(other, 3, day, today) == whole && form(other, tongue, day, today) == word) {
                return true;
            }
        }
        return false;
    }

    int name(int feature, int tongue, long word, int day) {
        index(isFeature(feature), within(tongue, 0, 3));
        argument(isWord(word, 8), isDay(day));
        state(countNames() < 100, !isRefused(feature, tongue, word, day));
        tell("name" + tongue, day, text(word), feature);
        return (int) countNames();
    }

    private long countNames() {
        return told.stream().filter(t -> t.sort.startsWith("name")).count();
    }

    int law(int tongue, int day, int letter, int first, int second) {
        index(within(tongue, 0, 3));
        argument(isDay(day), within(letter, 1, 26), within(first, 0, 26), within(second, 0, 26));
        argument(first != 0 || second == 0);
        state(count("law", -1) < 12);
        String in = first == 0 ? "" : second == 0 ? text(first) : text(first) + text(second);
        tell("law", day, text(letter) + in, tongue);
        return (int) count("law", -1);
    }

    void except(int feature, int tongue, int day) {
        index(isFeature(feature), within(tongue, 0, 3));
        argument(isDay(day));
        state(count("except", -1) < 40);
        tell("except", day, "", feature, tongue);
    }

    long form(int feature, int tongue, int day, int known) {
        index(isFeature(feature), within(tongue, 0, 3));
        argument(isDay(day), isDay(known));
        Told name = latest("name" + tongue, feature, day, known);
        if (name == null) {
            return 0;
        }
        int exempt = told.stream().filter(t -> t.sort.equals("except") && t.n[0] == feature && t.n[1] == tongue)
            .filter(t -> t.on <= known).mapToInt(t -> t.day).min().orElse(Integer.MAX_VALUE);
        List<Told> laws = new ArrayList<>(told.stream()
            .filter(t -> t.sort.equals("law") && t.n[0] == tongue && t.on <= known && t.day > name.day)
            .filter(t -> t.day <= day && t.day < exempt).toList());
        laws.sort(Comparator.comparingInt(Told::day));
        String word = name.word;
        for (Told law : laws) {
            word = word.replace(law.word.substring(0, 1), law.word.substring(1));
            word = word.substring(0, Math.min(12, word.length()));
        }
        return number(word);
    }

    int petition(int feature, int tongue, long word, int day) {
        index(isFeature(feature), within(tongue, 0, 3));
        argument(isWord(word, 8), within(day, today + 30, 9999));
        state(petitions.size() < 16);
        petitions.add(new Told("name" + tongue, today, day, new int[] {feature, tongue}, text(word)));
        states.add(new int[] {0, -1});
        votes.add(new HashMap<>());
        protests.add(new boolean[8]);
        return petitions.size() - 1;
    }

    private boolean isPetition(int petition) {
        return within(petition, 0, petitions.size() - 1);
    }

    int vote(int petition, int councillor, boolean isFor) {
        index(isPetition(petition), within(councillor, 0, 8));
        state(states.get(petition)[0] == 0, !votes.get(petition).containsKey(councillor));
        votes.get(petition).put(councillor, isFor);
        return votes.get(petition).size();
    }

    boolean protest(int petition, int person) {
        index(isPetition(petition), within(person, 0, 7));
        state(states.get(petition)[0] == 0);
        protests.get(petition)[person] = !protests.get(petition)[person];
        return protests.get(petition)[person];
    }

    int decide(int petition) {
        index(isPetition(petition));
        Told p = petitions.get(petition);
        state(states.get(petition)[0] == 0, today < p.day, votes.get(petition).size() >= 5);
        state(petitionOf(petition, 3) == 0, countNames() < 100);
        boolean isFor = petitionOf(petition, 1) > petitionOf(petition, 2);
        boolean isTold = isFor && !isRefused(p.n[0], p.n[1], number(p.word), p.day);
        if (isTold) {
            tell(p.sort, p.day, p.word, p.n[0]);
            namesOfPetitions.put(petition, told.get(told.size() - 1));
        }
        states.set(petition, new int[] {isTold ? 1 : 2, today});
        return isTold ? 1 : 2;
    }

    int appeal(int petition) {
        index(isPetition(petition));
        int behind = today - states.get(petition)[1];
        state(states.get(petition)[0] == 1, behind <= 60);
        states.get(petition)[0] = 3;
        reversed.put(namesOfPetitions.get(petition), today);
        return behind;
    }

    int petitionOf(int petition, int what) {
        index(isPetition(petition));
        argument(within(what, 0, 4));
        int[] all = {states.get(petition)[0], 0, 0, 0, states.get(petition)[1]};
        for (boolean isFor : votes.get(petition).values()) {
            all[isFor ? 1 : 2]++;
        }
        for (boolean isRaised : protests.get(petition)) {
            all[3] += isRaised ? 1 : 0;
        }
        return all[what];
    }

    int census(int feature, int tongue, int hundredths) {
        index(isFeature(feature), within(tongue, 0, 3));
        argument(within(hundredths, 0, 100));
        Integer before = census.put(feature + " " + tongue, hundredths);
        return before == null ? 0 : before;
    }

    void dispute(int feature, int one, int other) {
        index(isFeature(feature), within(one, 0, 3), within(other, 0, 3));
        disputes.put(feature, one == other ? null : new int[] {one, other});
    }

    int shown(int feature, int day) {
        index(isFeature(feature));
        argument(isDay(day));
        int spoken = 0;
        List<Integer> all = new ArrayList<>();
        for (int tongue = 0; tongue < 4; tongue++) {
            if (form(feature, tongue, day, today) != 0) {
                all.add(tongue);
                spoken += census.getOrDefault(feature + " " + tongue, 0) >= 20 ? 1 << tongue : 0;
            }
        }
        all.sort(Comparator.comparingInt(t -> -census.getOrDefault(feature + " " + t, 0)));
        return spoken != 0 || all.isEmpty() ? spoken : 1 << all.get(0);
    }

    long display(int feature, int tongue) {
        index(isFeature(feature), within(tongue, 0, 3));
        int[] dispute = disputes.get(feature);
        if (dispute != null) {
            boolean isOne = tongue == dispute[0] || tongue == dispute[1];
            return form(feature, isOne ? tongue : Math.min(dispute[0], dispute[1]), today, today);
        }
        int[] order = {tongue, 0, 1, 2, 3};
        return Arrays.stream(order).mapToLong(t -> form(feature, t, today, today)).filter(f -> f != 0).findFirst().orElse(0);
    }

    int table(int table, int letter, int to) {
        index(within(table, 0, 3));
        argument(within(letter, 1, 26), within(to, 1, 26));
        int before = tables[table][letter];
        tables[table][letter] = to;
        return before;
    }

    long write(long word, int table) {
        index(within(table, 0, 3));
        argument(isWord(word, 12));
        StringBuilder written = new StringBuilder();
        for (char c : text(word).toCharArray()) {
            written.append((char) ('a' + tables[table][c - 'a' + 1] - 1));
        }
        return number(written.toString());
    }

    long back(long word, int table) {
        index(within(table, 0, 3));
        argument(isWord(word, 12));
        StringBuilder read = new StringBuilder();
        for (char c : text(word).toCharArray()) {
            int before = read.length();
            for (int letter = 1; letter <= 26; letter++) {
                if (tables[table][letter] == c - 'a' + 1) {
                    read.append((char) ('a' + letter - 1));
                }
            }
            if (read.length() != before + 1) {
                return -1;
            }
        }
        return number(read.toString());
    }

    int loss(int table) {
        index(within(table, 0, 3));
        return 26 - (int) Arrays.stream(tables[table]).skip(1).distinct().count();
    }

    int reading(long word, int x, int y) {
        argument(isWord(word, 8), within(x, 0, 99), within(y, 0, 99));
        state(readings.size() < 4);
        readings.add(new Told("reading", today, today, new int[] {x, y}, text(word)));
        return readings.size() - 1;
    }

    private static int edits(String from, String to) {
        int[][] d = new int[from.length() + 1][to.length() + 1];
        for (int i = 0; i <= from.length(); i++) {
            for (int k = 0; k <= to.length(); k++) {
                if (i == 0 || k == 0) {
                    d[i][k] = i + k;
                } else {
                    int changed = d[i - 1][k - 1] + (from.charAt(i - 1) == to.charAt(k - 1) ? 0 : 1);
                    d[i][k] = Math.min(changed, 1 + Math.min(d[i - 1][k], d[i][k - 1]));
                }
            }
        }
        return d[from.length()][to.length()];
    }

    private List<String> words(int feature) {
        return told.stream().filter(t -> t.sort.startsWith("name") && t.n[0] == feature).map(Told::word).toList();
    }

    private int distance(int feature, int x, int y) {
        return Math.abs(of(feature, 1, today, today) - x) + Math.abs(of(feature, 2, today, today) - y);
    }

    int cost(int reading, int feature) {
        index(within(reading, 0, readings.size() - 1), isFeature(feature));
        if (!isThere(feature, today, today) || words(feature).isEmpty()) {
            return -1;
        }
        Told r = readings.get(reading);
        int letters = words(feature).stream().mapToInt(w -> 10 * edits(r.word, w)).min().orElseThrow();
        int cost = letters + distance(feature, r.n[0], r.n[1]);
        return cost > 60 ? -1 : cost;
    }

    /** How many assignments there are of the readings from one on, and what the cheapest costs. */
    private int[] assignments(int[][] costs, int reading, boolean[] taken) {
        if (reading == costs.length) {
            return new int[] {1, 0};
        }
        int[] all = {0, -1};
        for (int feature = 0; feature < kinds.size(); feature++) {
            if (!taken[feature] && costs[reading][feature] != -1) {
                taken[feature] = true;
                int[] rest = assignments(costs, reading + 1, taken);
                taken[feature] = false;
                int together = rest[1] + costs[reading][feature];
                all[0] += rest[0];
                all[1] = rest[1] == -1 || all[1] != -1 && all[1] < together ? all[1] : together;
            }
        }
        return all;
    }

    private int[] assignments() {
        int[][] costs = new int[readings.size()][kinds.size()];
        for (int reading = 0; reading < readings.size(); reading++) {
            for (int feature = 0; feature < kinds.size(); feature++) {
                costs[reading][feature] = cost(reading, feature);
            }
        }
        return assignments(costs, 0, new boolean[kinds.size()]);
    }

    int assign() {
        return assignments()[1];
    }

    int ways() {
        return assignments()[0];
    }

    private boolean isFormNow(int feature, long word) {
        return Arrays.stream(new int[] {0, 1, 2, 3}).anyMatch(t -> form(feature, t, today, today) == word);
    }

    int find(long word, int x, int y, int rank) {
        index(rank >= 0);
        argument(isWord(word, 12), within(x, 0, 99), within(y, 0, 99));
        List<Integer> found = new ArrayList<>();
        for (int feature = 0; feature < kinds.size(); feature++) {
            if (isFormNow(feature, word) || words(feature).contains(text(word))) {
                found.add(feature);
            }
        }
        found.sort(Comparator.<Integer>comparingInt(f -> isFormNow(f, word) ? 0 : 1).thenComparing(f -> distance(f, x, y)));
        return rank < found.size() ? found.get(rank) : -1;
    }

    int pull(int subscriber) {
        index(within(subscriber, 0, 3));
        int behind = today - copies[subscriber];
        copies[subscriber] = today;
        return behind;
    }

    long copy(int subscriber, int feature, int tongue) {
        index(within(subscriber, 0, 3), isFeature(feature), within(tongue, 0, 3));
        return form(feature, tongue, today, copies[subscriber]);
    }

    int order(int feature) {
        index(isFeature(feature));
        state(!orders.contains(feature));
        orders.add(feature);
        return orders.size();
    }

    int budget(int signs) {
        argument(within(signs, 0, 10));
        int before = budget;
        budget = signs;
        return before;
    }

    long sign(int feature) {
        index(isFeature(feature));
        return signs[feature];
    }

    int pass(int days) {
        argument(within(days, 1, 400));
        state(today + days <= 9999);
        for (int day = 0; day < days; day++) {
            List<Integer> replaced = new ArrayList<>(orders.subList(0, Math.min(budget, orders.size())));
            for (int feature : replaced) {
                signs[feature] = display(feature, 0);
            }
            orders.removeAll(replaced);
            today++;
        }
        return today;
    }
}
