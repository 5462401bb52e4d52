import java.util.ArrayList;

/**
 * The names of a land: features, names in several tongues, laws of spelling, councils, tables for
 * other scripts, readings of old maps, a search, copies and signs, asked by two times: what held on
 * a day, and what was known on a day.
 */
public final class NameLand {
    /** None. */
    public static final int NONE = -1;
    /** A kind of features. */
    public static final int STREET = 5;

    private static final int LAST_DAY = 9999;
    private static final int LONGEST_PASS = 400;

    private static final int FEATURES = 24;
    private static final int KINDS = 6;
    private static final int SIDE = 100;
    private static final int TIMES_TOLD = 40;

    private static final int IS_THERE = 0;
    private static final int FIRST_NUMBER = 1;
    private static final int SECOND_NUMBER = 2;
    private static final int WHOLE = 3;
    private static final int ENDED_IN = 4;

    private static final int TONGUES = 4;
    private static final int LETTERS = 26;
    private static final int BASE = 27;
    private static final int WORD_LETTERS = 12;
    private static final int TOLD_LETTERS = 8;
    /** The lowest word of 12 letters has more than this: 27 to the power of 11. */
    private static final long ELEVEN_LETTERS = 5559060566555523L;
    private static final int NAMES = 100;
    private static final int LAWS = 12;
    private static final int EXEMPTIONS = 40;

    private static final int PETITIONS = 16;
    private static final int DAYS_AHEAD = 30;
    private static final int COUNCILLORS = 9;
    private static final int PERSONS = 8;
    private static final int VOTES_NEEDED = 5;
    private static final int DAYS_TO_APPEAL = 60;
    private static final int OPEN = 0;
    private static final int DECIDED = 1;
    private static final int REJECTED = 2;
    private static final int REVERSED = 3;

    private static final int STATE = 0;
    private static final int VOTES_FOR = 1;
    private static final int VOTES_AGAINST = 2;
    private static final int PROTESTS = 3;
    private static final int DECIDED_ON = 4;

    private static final int ALL_HUNDREDTHS = 100;
    private static final int HUNDREDTHS_SHOWN = 20;
    private static final int TABLES = 4;

    private static final int READINGS = 4;
    private static final int SETS_OF_READINGS = 16;
    private static final int LETTER_COST = 10;
    private static final int HIGHEST_FIT = 60;

    private static final int SUBSCRIBERS = 4;
    private static final int HIGHEST_BUDGET = 10;
    private static final int FIRST_BUDGET = 2;
    private static final int SIGN_TONGUE = 0;

    private final ArrayList<Feature> features = new ArrayList<Feature>();
    private final ArrayList<Law> laws = new ArrayList<Law>();
    private final ArrayList<Petition> petitions = new ArrayList<Petition>();
    private final ArrayList<Table> tables = new ArrayList<Table>();
    private final ArrayList<Reading> readings = new ArrayList<Reading>();
    private final ArrayList<Feature> waiting = new ArrayList<Feature>();
    private final Assignments assignments = new Assignments();
    private final int[] copyDays = new int[SUBSCRIBERS];
    private final int[] searchKeys = new int[FEATURES];
    private final int[] editRow = new int[TOLD_LETTERS + 1];
    private int today;
    private int namesTold;
    private int exemptionsTold;
    private int signsForEachDay = FIRST_BUDGET;

    /** Creates a land without features, on the day 0. */
    public NameLand() {
        for (int i = 0; i < TABLES; i++) {
            tables.add(new Table());
        }
    }

    // ---- features

    /** Tells a feature that is there from the present day on; returns its number. */
    public int feature(int kind, int x, int y) throws IllegalArgumentException, IllegalStateException {
        needArgument(kind >= 0 && kind < KINDS && isPlace(x, y));
        needState(features.size() < FEATURES);
        Feature told = new Feature(kind, today);
        told.places.tell(placeNumber(x, y), today, today);
        features.add(told);
        return features.size() - 1;
    }

    /** Tells a place of a feature from a day on. */
    public void move(int feature, int x, int y, int day)
            throws IndexOutOfBoundsException, IllegalArgumentException, IllegalStateException {
        Feature moved = featureAt(feature);
        needArgument(isPlace(x, y) && isDay(day));
        needState(!moved.places.isFull());
        moved.places.tell(placeNumber(x, y), day, today);
    }

    /** Tells of what a feature is a part from a day on. */
    public void part(int feature, int whole, int day)
            throws IndexOutOfBoundsException, IllegalArgumentException, IllegalStateException {
        Feature told = featureAt(feature);
        needFeatureOrNone(whole);
        needArgument(whole < feature && isDay(day));
        needState(!told.wholes.isFull());
        told.wholes.tell(whole, day, today);
    }

    /** Tells the end of a feature, once. */
    public void end(int feature, int in, int day)
            throws IndexOutOfBoundsException, IllegalArgumentException, IllegalStateException {
        Feature ended = featureAt(feature);
        needFeatureOrNone(in);
        needArgument(in != feature && isDay(day));
        needState(!ended.isEndTold);
        ended.isEndTold = true;
        ended.endKnownFrom = today;
        ended.endDay = day;
        ended.endIn = in;
    }

    /** Returns something of a feature on a day, as it was known on some day. */
    public int of(int feature, int what, int day, int known)
            throws IndexOutOfBoundsException, IllegalArgumentException {
        Feature asked = featureAt(feature);
        needArgument(what >= IS_THERE && what <= ENDED_IN && isDay(day) && isDay(known));
        switch (what) {
            case IS_THERE:
                return asked.isThere(day, known) ? 1 : 0;
            case FIRST_NUMBER:
                return firstNumber(asked.places.valueOn(day, known));
            case SECOND_NUMBER:
                return secondNumber(asked.places.valueOn(day, known));
            case WHOLE:
                return asked.wholes.valueOn(day, known);
            default:
                return asked.hasEnded(day, known) ? asked.endIn : NONE;
        }
    }

    // ---- names and laws

    /** Tells a name, by a register; returns how many names were told of all features. */
    public int name(int feature, int tongue, long word, int day)
            throws IndexOutOfBoundsException, IllegalArgumentException, IllegalStateException {
        Feature named = featureAt(feature);
        needTongue(tongue);
        needArgument(isWord(word, TOLD_LETTERS) && isDay(day));
        needState(namesTold < NAMES && !isRefused(named, tongue, word, day));
        named.names.add(new Name(tongue, word, day, today));
        namesTold++;
        return namesTold;
    }

    /** Tells a law; returns how many laws there are then. */
    public int law(int tongue, int day, int letter, int first, int second)
            throws IndexOutOfBoundsException, IllegalArgumentException, IllegalStateException {
        needTongue(tongue);
        needArgument(isDay(day) && isLetter(letter) && isLetterOrNone(first) && isLetterOrNone(second));
        needArgument(first != 0 || second == 0);
        needState(laws.size() < LAWS);
        Law told = new Law(tongue, day, today, letter, first, second);
        laws.add(placeOfLaw(day), told);
        return laws.size();
    }

    /** Tells an exception of a feature from the laws of a tongue. */
    public void except(int feature, int tongue, int day)
            throws IndexOutOfBoundsException, IllegalArgumentException, IllegalStateException {
        Feature exempted = featureAt(feature);
        needTongue(tongue);
        needArgument(isDay(day));
        needState(exemptionsTold < EXEMPTIONS);
        exempted.exemptions.add(new Exemption(tongue, day, today));
        exemptionsTold++;
    }

    /** Returns a FORM, 0 if there is none. */
    public long form(int feature, int tongue, int day, int known)
            throws IndexOutOfBoundsException, IllegalArgumentException {
        Feature asked = featureAt(feature);
        needTongue(tongue);
        needArgument(isDay(day) && isDay(known));
        return formOn(asked, tongue, day, known);
    }

    // ---- councils

    /** Tells a petition; returns its number. */
    public int petition(int feature, int tongue, long word, int day)
            throws IndexOutOfBoundsException, IllegalArgumentException, IllegalStateException {
        Feature asked = featureAt(feature);
        needTongue(tongue);
        needArgument(isWord(word, TOLD_LETTERS) && isDay(day) && day >= today + DAYS_AHEAD);
        needState(petitions.size() < PETITIONS);
        petitions.add(new Petition(asked, tongue, word, day));
        return petitions.size() - 1;
    }

    /** Votes; returns how many votes there are then. */
    public int vote(int petition, int councillor, boolean isFor)
            throws IndexOutOfBoundsException, IllegalStateException {
        Petition voted = petitionAt(petition);
        needIndex(councillor, COUNCILLORS);
        needState(voted.state == OPEN && !voted.hasVoted(councillor));
        if (isFor) {
            voted.votesFor |= 1 << councillor;
        } else {
            voted.votesAgainst |= 1 << councillor;
        }
        return voted.countVotes();
    }

    /** Raises a protest, or takes it back; returns true if there is one by that person then. */
    public boolean protest(int petition, int person) throws IndexOutOfBoundsException, IllegalStateException {
        Petition protested = petitionAt(petition);
        needIndex(person, PERSONS);
        needState(protested.state == OPEN);
        protested.protests ^= 1 << person;
        return (protested.protests & 1 << person) != 0;
    }

    /** Decides a petition; returns its state then. */
    public int decide(int petition) throws IndexOutOfBoundsException, IllegalStateException {
        Petition asked = petitionAt(petition);
        needState(asked.canBeDecided(today) && namesTold < NAMES);
        asked.decidedOn = today;
        if (asked.hasMoreFor() && !isRefused(asked.feature, asked.tongue, asked.word, asked.day)) {
            asked.state = DECIDED;
            asked.name = new Name(asked.tongue, asked.word, asked.day, today);
            asked.feature.names.add(asked.name);
            namesTold++;
        } else {
            asked.state = REJECTED;
        }
        return asked.state;
    }

    /** Appeals against a petition that was DECIDED; returns how many days behind the day of deciding. */
    public int appeal(int petition) throws IndexOutOfBoundsException, IllegalStateException {
        Petition appealed = petitionAt(petition);
        needState(appealed.state == DECIDED && today - appealed.decidedOn <= DAYS_TO_APPEAL);
        appealed.state = REVERSED;
        Name reversed = appealed.name;
        if (reversed != null) {
            reversed.isReversed = true;
            reversed.reversedOn = today;
        }
        return today - appealed.decidedOn;
    }

    /** Returns something of a petition. */
    public int petitionOf(int petition, int what) throws IndexOutOfBoundsException, IllegalArgumentException {
        Petition asked = petitionAt(petition);
        needArgument(what >= STATE && what <= DECIDED_ON);
        switch (what) {
            case STATE:
                return asked.state;
            case VOTES_FOR:
                return Integer.bitCount(asked.votesFor);
            case VOTES_AGAINST:
                return Integer.bitCount(asked.votesAgainst);
            case PROTESTS:
                return Integer.bitCount(asked.protests);
            default:
                return asked.decidedOn;
        }
    }

    // ---- shown

    /** Tells a census; returns what was told ahead of it. */
    public int census(int feature, int tongue, int hundredths)
            throws IndexOutOfBoundsException, IllegalArgumentException {
        Feature counted = featureAt(feature);
        needTongue(tongue);
        needArgument(hundredths >= 0 && hundredths <= ALL_HUNDREDTHS);
        int told = counted.hundredthsOf(tongue);
        counted.setHundredths(tongue, hundredths);
        return told;
    }

    /** Lets a feature be disputed, or, with two like tongues, not any more. */
    public void dispute(int feature, int one, int other) throws IndexOutOfBoundsException {
        Feature disputed = featureAt(feature);
        needTongue(one);
        needTongue(other);
        disputed.disputedByOne = one;
        disputed.disputedByOther = other;
    }

    /** Returns the tongues in which a feature is shown on a day, as a set. */
    public int shown(int feature, int day) throws IndexOutOfBoundsException, IllegalArgumentException {
        Feature asked = featureAt(feature);
        needArgument(isDay(day));
        int spoken = 0;
        int best = NONE;
        for (int tongue = 0; tongue < TONGUES; tongue++) {
            if (formOn(asked, tongue, day, today) != 0) {
                if (asked.hundredthsOf(tongue) >= HUNDREDTHS_SHOWN) {
                    spoken |= 1 << tongue;
                }
                if (best == NONE || asked.hundredthsOf(tongue) > asked.hundredthsOf(best)) {
                    best = tongue;
                }
            }
        }
        if (spoken != 0 || best == NONE) {
            return spoken;
        }
        return 1 << best;
    }

    /** Returns what a reader of a tongue sees of a feature now, 0 if there is nothing. */
    public long display(int feature, int tongue) throws IndexOutOfBoundsException {
        Feature asked = featureAt(feature);
        needTongue(tongue);
        return seenBy(asked, tongue);
    }

    // ---- tables

    /** Sets a letter of a table; returns what was told for it. */
    public int table(int table, int letter, int to) throws IndexOutOfBoundsException, IllegalArgumentException {
        Table changed = tableAt(table);
        needArgument(isLetter(letter) && isLetter(to));
        int told = changed.letterFor(letter);
        changed.setLetter(letter, to);
        return told;
    }

    /** Writes a word by a table. */
    public long write(long word, int table) throws IndexOutOfBoundsException, IllegalArgumentException {
        Table used = tableAt(table);
        needArgument(isWord(word, WORD_LETTERS));
        long rest = turned(word);
        long written = 0;
        for (int i = 0; i < WORD_LETTERS && rest > 0; i++) {
            written = written * BASE + used.letterFor((int) (rest % BASE));
            rest /= BASE;
        }
        return written;
    }

    /** Reads a word back by a table; -1 if it cannot be read back. */
    public long back(long word, int table) throws IndexOutOfBoundsException, IllegalArgumentException {
        Table used = tableAt(table);
        needArgument(isWord(word, WORD_LETTERS));
        long rest = turned(word);
        long read = 0;
        for (int i = 0; i < WORD_LETTERS && rest > 0; i++) {
            int letter = used.onlyLetterTold((int) (rest % BASE));
            if (letter == NONE) {
                return NONE;
            }
            read = read * BASE + letter;
            rest /= BASE;
        }
        return read;
    }

    /** Returns what a table loses: 26 less how many different letters it tells. */
    public int loss(int table) throws IndexOutOfBoundsException {
        return LETTERS - tableAt(table).countDifferent();
    }

    // ---- readings and the search

    /** Tells a reading; returns its number. */
    public int reading(long word, int x, int y) throws IllegalArgumentException, IllegalStateException {
        needArgument(isWord(word, TOLD_LETTERS) && isPlace(x, y));
        needState(readings.size() < READINGS);
        readings.add(new Reading(word, x, y));
        return readings.size() - 1;
    }

    /** Returns what a reading costs at a feature; -1 if it does not fit. */
    public int cost(int reading, int feature) throws IndexOutOfBoundsException {
        needIndex(reading, readings.size());
        Feature asked = featureAt(feature);
        return costAt(readings.get(reading), asked);
    }

    /** Returns what all readings cost together by the cheapest assignment; -1 if there is none. */
    public int assign() {
        assignAll();
        return assignments.leastFor(readings.size());
    }

    /** Returns how many assignments there are; 1 without readings. */
    public int ways() {
        assignAll();
        return assignments.waysFor(readings.size());
    }

    /** Searches for the features of which a word was ever told as a name, or is a FORM now. */
    public int find(long word, int x, int y, int rank) throws IndexOutOfBoundsException, IllegalArgumentException {
        if (rank < 0) {
            throw new IndexOutOfBoundsException("no such rank");
        }
        needArgument(isWord(word, WORD_LETTERS) && isPlace(x, y));
        for (int i = 0; i < searchKeys.length; i++) {
            searchKeys[i] = i < features.size() ? searchKey(i, features.get(i), word, x, y) : NONE;
        }
        for (int i = 0; i < searchKeys.length; i++) {
            if (searchKeys[i] != NONE && countFoundAhead(searchKeys[i]) == rank) {
                return i;
            }
        }
        return NONE;
    }

    // ---- copies, signs, days

    /** Brings the copy of a subscriber up to the present day; returns how many days it was behind. */
    public int pull(int subscriber) throws IndexOutOfBoundsException {
        needIndex(subscriber, copyDays.length);
        int behind = today - copyDays[subscriber];
        copyDays[subscriber] = today;
        return behind;
    }

    /** Returns a FORM of the present day by the copy of a subscriber, 0 if there is none. */
    public long copy(int subscriber, int feature, int tongue) throws IndexOutOfBoundsException {
        needIndex(subscriber, copyDays.length);
        Feature asked = featureAt(feature);
        needTongue(tongue);
        return formOn(asked, tongue, today, copyDays[subscriber]);
    }

    /** Orders a sign; returns how many orders wait then. */
    public int order(int feature) throws IndexOutOfBoundsException, IllegalStateException {
        Feature ordered = featureAt(feature);
        needState(!ordered.isSignOrdered);
        ordered.isSignOrdered = true;
        waiting.add(ordered);
        return waiting.size();
    }

    /** Sets the budget; returns what it was. */
    public int budget(int signs) throws IllegalArgumentException {
        needArgument(signs >= 0 && signs <= HIGHEST_BUDGET);
        int before = signsForEachDay;
        signsForEachDay = signs;
        return before;
    }

    /** Returns what the sign of a feature shows, 0 for nothing. */
    public long sign(int feature) throws IndexOutOfBoundsException {
        return featureAt(feature).signShows;
    }

    /** Lets days pass; returns the day then. */
    public int pass(int days) throws IllegalArgumentException, IllegalStateException {
        needArgument(days >= 1 && days <= LONGEST_PASS);
        needState(today + days <= LAST_DAY);
        for (int i = 0; i < days; i++) {
            replaceSigns();
            today++;
        }
        return today;
    }

    // ---- what calls need

    private static void needArgument(boolean isInRange) throws IllegalArgumentException {
        if (!isInRange) {
            throw new IllegalArgumentException("out of range");
        }
    }

    private static void needState(boolean isPossible) throws IllegalStateException {
        if (!isPossible) {
            throw new IllegalStateException("not possible now");
        }
    }

    private static void needIndex(int index, int count) throws IndexOutOfBoundsException {
        if (index < 0 || index >= count) {
            throw new IndexOutOfBoundsException("does not exist");
        }
    }

    private static void needTongue(int tongue) throws IndexOutOfBoundsException {
        needIndex(tongue, TONGUES);
    }

    private void needFeatureOrNone(int feature) throws IndexOutOfBoundsException {
        if (feature != NONE) {
            needIndex(feature, features.size());
        }
    }

    private Feature featureAt(int feature) throws IndexOutOfBoundsException {
        needIndex(feature, features.size());
        return features.get(feature);
    }

    private Petition petitionAt(int petition) throws IndexOutOfBoundsException {
        needIndex(petition, petitions.size());
        return petitions.get(petition);
    }

    private Table tableAt(int table) throws IndexOutOfBoundsException {
        needIndex(table, tables.size());
        return tables.get(table);
    }

    private static boolean isDay(int day) {
        return day >= 0 && day <= LAST_DAY;
    }

    private static boolean isLetter(int letter) {
        return letter >= 1 && letter <= LETTERS;
    }

    private static boolean isLetterOrNone(int letter) {
        return letter == 0 || isLetter(letter);
    }

    // ---- places, each kept as one number

    private static boolean isPlace(int x, int y) {
        return x >= 0 && x < SIDE && y >= 0 && y < SIDE;
    }

    private static int placeNumber(int x, int y) {
        return x * SIDE + y;
    }

    private static int firstNumber(int place) {
        return place == NONE ? NONE : place / SIDE;
    }

    private static int secondNumber(int place) {
        return place == NONE ? NONE : place % SIDE;
    }

    private int distance(Feature feature, int x, int y) {
        int place = feature.places.valueOn(today, today);
        return Math.abs(firstNumber(place) - x) + Math.abs(secondNumber(place) - y);
    }

    // ---- words

    private static boolean isWord(long word, int mostLetters) {
        long rest = word;
        for (int i = 0; i < mostLetters && rest > 0; i++) {
            if (rest % BASE == 0) {
                return false;
            }
            rest /= BASE;
        }
        return word > 0 && rest == 0;
    }

    /** The word with its last letter first, so that dividing it yields the letters from the first on. */
    private static long turned(long word) {
        long rest = word;
        long turned = 0;
        for (int i = 0; i < WORD_LETTERS && rest > 0; i++) {
            turned = turned * BASE + rest % BASE;
            rest /= BASE;
        }
        return turned;
    }

    private static int countLetters(long word) {
        long rest = word;
        int count = 0;
        for (int i = 0; i < WORD_LETTERS && rest > 0; i++) {
            count++;
            rest /= BASE;
        }
        return count;
    }

    /** Letters behind the first 12 do not stay. */
    private static long withLetter(long word, int letter) {
        return letter == 0 || word >= ELEVEN_LETTERS ? word : word * BASE + letter;
    }

    // ---- FORMs

    /** Laws are kept by their days, those of one day as they were told. */
    private int placeOfLaw(int day) {
        for (int i = 0; i < laws.size(); i++) {
            if (laws.get(i).day > day) {
                return i;
            }
        }
        return laws.size();
    }

    private long formOn(Feature feature, int tongue, int day, int known) {
        Name name = feature.nameOn(tongue, day, known);
        if (name == null) {
            return 0;
        }
        int exemptFrom = feature.exemptFrom(tongue, known);
        long word = name.word;
        for (int i = 0; i < laws.size(); i++) {
            Law law = laws.get(i);
            boolean isOfTongue = law.tongue == tongue && law.knownFrom <= known;
            if (isOfTongue && law.day > name.day && law.day <= day && law.day < exemptFrom) {
                word = law.changed(word);
            }
        }
        return word;
    }

    private boolean hasFormNow(Feature feature, long word) {
        for (int tongue = 0; tongue < TONGUES; tongue++) {
            if (formOn(feature, tongue, today, today) == word) {
                return true;
            }
        }
        return false;
    }

    private boolean isRefused(Feature named, int tongue, long word, int day) {
        int whole = named.wholes.valueOn(day, today);
        if (named.kind != STREET || whole == NONE) {
            return false;
        }
        for (int i = 0; i < features.size(); i++) {
            Feature other = features.get(i);
            boolean isRival = other != named && other.kind == STREET && other.isThere(day, today)
                    && other.wholes.valueOn(day, today) == whole;
            if (isRival && formOn(other, tongue, day, today) == word) {
                return true;
            }
        }
        return false;
    }

    private long seenBy(Feature feature, int tongue) {
        if (feature.isDisputed()) {
            return formOn(feature, feature.disputedTongueFor(tongue), today, today);
        }
        long seen = formOn(feature, tongue, today, today);
        for (int other = 0; other < TONGUES && seen == 0; other++) {
            seen = formOn(feature, other, today, today);
        }
        return seen;
    }

    private void replaceSigns() {
        for (int i = 0; i < signsForEachDay && !waiting.isEmpty(); i++) {
            Feature next = waiting.remove(0);
            next.signShows = seenBy(next, SIGN_TONGUE);
            next.isSignOrdered = false;
        }
    }

    // ---- costs of readings, and keys of the search

    private int costAt(Reading reading, Feature feature) {
        if (!feature.isThere(today, today) || feature.names.isEmpty()) {
            return NONE;
        }
        int fewest = WORD_LETTERS;
        for (int i = 0; i < feature.names.size(); i++) {
            fewest = Math.min(fewest, countEdits(reading.word, feature.names.get(i).word));
        }
        int cost = distance(feature, reading.x, reading.y) + LETTER_COST * fewest;
        return cost <= HIGHEST_FIT ? cost : NONE;
    }

    /** How many letters have to be put in, taken out or changed, at the fewest: the same for turned words. */
    private int countEdits(long from, long to) {
        for (int i = 0; i < editRow.length; i++) {
            editRow[i] = i;
        }
        long rest = from;
        for (int i = 0; i < TOLD_LETTERS && rest > 0; i++) {
            addToEdits(rest % BASE, to);
            rest /= BASE;
        }
        int last = countLetters(to);
        return last < editRow.length ? editRow[last] : TOLD_LETTERS;
    }

    /** Makes the row for words up to one letter less the row for words up to this letter. */
    private void addToEdits(long letter, long to) {
        int diagonal = 0;
        int left = 0;
        long rest = to;
        for (int i = 0; i < editRow.length; i++) {
            int above = editRow[i];
            if (i == 0) {
                left = above + 1;
            } else {
                int changed = diagonal + (rest % BASE == letter ? 0 : 1);
                left = Math.min(changed, Math.min(above, left) + 1);
                rest /= BASE;
            }
            editRow[i] = left;
            diagonal = above;
        }
    }

    private void assignAll() {
        assignments.begin();
        for (int i = 0; i < features.size(); i++) {
            for (int k = 0; k < READINGS; k++) {
                assignments.setCost(k, k < readings.size() ? costAt(readings.get(k), features.get(i)) : NONE);
            }
            assignments.addFeature();
        }
    }

    /** Lower for what comes first, and of two features never the same; -1 if the word is none of the feature. */
    private int searchKey(int number, Feature feature, long word, int x, int y) {
        int distance = distance(feature, x, y);
        if (hasFormNow(feature, word)) {
            return distance * FEATURES + number;
        }
        return feature.hasEverBeen(word) ? (SIDE + SIDE + distance) * FEATURES + number : NONE;
    }

    private int countFoundAhead(int key) {
        int count = 0;
        for (int i = 0; i < searchKeys.length; i++) {
            if (searchKeys[i] != NONE && searchKeys[i] < key) {
                count++;
            }
        }
        return count;
    }

    /** A value that was told for a day, and is known from a day on. */
    private static final class Entry {
        private final int value;
        private final int day;
        private final int knownFrom;

        private Entry(int value, int day, int knownFrom) {
            this.value = value;
            this.day = day;
            this.knownFrom = knownFrom;
        }
    }

    /** All that was told of one thing, in the order in which it was told. */
    private static final class History {
        private final ArrayList<Entry> entries = new ArrayList<Entry>();

        private boolean isFull() {
            return entries.size() >= TIMES_TOLD;
        }

        private void tell(int value, int day, int knownFrom) {
            entries.add(new Entry(value, day, knownFrom));
        }

        /** What was told for the latest day, of several what was told last; -1 if nothing was. */
        private int valueOn(int day, int known) {
            int latest = NONE;
            int value = NONE;
            for (int i = 0; i < entries.size(); i++) {
                Entry entry = entries.get(i);
                if (entry.day <= day && entry.knownFrom <= known && entry.day >= latest) {
                    latest = entry.day;
                    value = entry.value;
                }
            }
            return value;
        }
    }

    /** A name of a feature. */
    private static final class Name {
        private final int tongue;
        private final long word;
        private final int day;
        private final int knownFrom;
        private boolean isReversed;
        private int reversedOn;

        private Name(int tongue, long word, int day, int knownFrom) {
            this.tongue = tongue;
            this.word = word;
            this.day = day;
            this.knownFrom = knownFrom;
        }

        private boolean counts(int known) {
            return knownFrom <= known && !(isReversed && reversedOn <= known);
        }
    }

    /** An exception of a feature from the laws of a tongue. */
    private static final class Exemption {
        private final int tongue;
        private final int day;
        private final int knownFrom;

        private Exemption(int tongue, int day, int knownFrom) {
            this.tongue = tongue;
            this.day = day;
            this.knownFrom = knownFrom;
        }
    }

    /** A law of spelling: what comes in place of a letter. */
    private static final class Law {
        private final int tongue;
        private final int day;
        private final int knownFrom;
        private final int letter;
        private final int first;
        private final int second;

        private Law(int tongue, int day, int knownFrom, int letter, int first, int second) {
            this.tongue = tongue;
            this.day = day;
            this.knownFrom = knownFrom;
            this.letter = letter;
            this.first = first;
            this.second = second;
        }

        private long changed(long word) {
            long rest = turned(word);
            long changed = 0;
            for (int i = 0; i < WORD_LETTERS && rest > 0; i++) {
                int old = (int) (rest % BASE);
                if (old == letter) {
                    changed = withLetter(withLetter(changed, first), second);
                } else {
                    changed = withLetter(changed, old);
                }
                rest /= BASE;
            }
            return changed;
        }
    }

    /** A feature with all that was told of it. */
    private static final class Feature {
        private final int kind;
        private final int toldOn;
        private final History places = new History();
        private final History wholes = new History();
        private final ArrayList<Name> names = new ArrayList<Name>();
        private final ArrayList<Exemption> exemptions = new ArrayList<Exemption>();
        private final int[] hundredths = new int[TONGUES];
        private boolean isEndTold;
        private int endKnownFrom;
        private int endDay;
        private int endIn = NONE;
        private int disputedByOne;
        private int disputedByOther;
        private boolean isSignOrdered;
        private long signShows;

        private Feature(int kind, int toldOn) {
            this.kind = kind;
            this.toldOn = toldOn;
        }

        private boolean hasEnded(int day, int known) {
            return isEndTold && endKnownFrom <= known && endDay <= day;
        }

        private boolean isThere(int day, int known) {
            return toldOn <= day && toldOn <= known && !hasEnded(day, known);
        }

        /** The name that holds on a day; null if there is none. */
        private Name nameOn(int tongue, int day, int known) {
            Name latest = null;
            for (int i = 0; i < names.size(); i++) {
                Name name = names.get(i);
                if (name.tongue == tongue && name.day <= day && name.counts(known)
                        && (latest == null || name.day >= latest.day)) {
                    latest = name;
                }
            }
            return latest;
        }

        private boolean hasEverBeen(long word) {
            for (int i = 0; i < names.size(); i++) {
                if (names.get(i).word == word) {
                    return true;
                }
            }
            return false;
        }

        /** The day from which on laws do not apply, behind the last day if all do. */
        private int exemptFrom(int tongue, int known) {
            int earliest = LAST_DAY + 1;
            for (int i = 0; i < exemptions.size(); i++) {
                Exemption exemption = exemptions.get(i);
                if (exemption.tongue == tongue && exemption.knownFrom <= known) {
                    earliest = Math.min(earliest, exemption.day);
                }
            }
            return earliest;
        }

        private int hundredthsOf(int tongue) {
            return tongue >= 0 && tongue < hundredths.length ? hundredths[tongue] : 0;
        }

        private void setHundredths(int tongue, int told) {
            if (tongue >= 0 && tongue < hundredths.length) {
                hundredths[tongue] = told;
            }
        }

        private boolean isDisputed() {
            return disputedByOne != disputedByOther;
        }

        private int disputedTongueFor(int reader) {
            boolean isOfDispute = reader == disputedByOne || reader == disputedByOther;
            return isOfDispute ? reader : Math.min(disputedByOne, disputedByOther);
        }
    }

    /** A petition for a name, with its votes and protests as sets. */
    private static final class Petition {
        private final Feature feature;
        private final int tongue;
        private final long word;
        private final int day;
        private int state = OPEN;
        private int votesFor;
        private int votesAgainst;
        private int protests;
        private int decidedOn = NONE;
        private Name name;

        private Petition(Feature feature, int tongue, long word, int day) {
            this.feature = feature;
            this.tongue = tongue;
            this.word = word;
            this.day = day;
        }

        private boolean hasVoted(int councillor) {
            return ((votesFor | votesAgainst) & 1 << councillor) != 0;
        }

        private int countVotes() {
            return Integer.bitCount(votesFor | votesAgainst);
        }

        private boolean hasMoreFor() {
            return Integer.bitCount(votesFor) > Integer.bitCount(votesAgainst);
        }

        private boolean canBeDecided(int today) {
            return state == OPEN && today < day && countVotes() >= VOTES_NEEDED && protests == 0;
        }
    }

    /** A table for another script: for each letter another one, at first itself. */
    private static final class Table {
        private final int[] told = new int[LETTERS + 1];

        private Table() {
            for (int i = 0; i < told.length; i++) {
                told[i] = i;
            }
        }

        private int letterFor(int letter) {
            return letter >= 0 && letter < told.length ? told[letter] : 0;
        }

        private void setLetter(int letter, int to) {
            if (letter >= 0 && letter < told.length) {
                told[letter] = to;
            }
        }

        /** The one letter for which a letter is told; -1 if there is none, or more than one. */
        private int onlyLetterTold(int to) {
            int found = NONE;
            for (int letter = 1; letter < told.length; letter++) {
                if (told[letter] == to) {
                    if (found != NONE) {
                        return NONE;
                    }
                    found = letter;
                }
            }
            return found;
        }

        private int countDifferent() {
            int set = 0;
            for (int letter = 1; letter < told.length; letter++) {
                set |= 1 << told[letter];
            }
            return Integer.bitCount(set);
        }
    }

    /** A reading of an old map: a word at a place. */
    private static final class Reading {
        private final long word;
        private final int x;
        private final int y;

        private Reading(long word, int x, int y) {
            this.word = word;
            this.x = x;
            this.y = y;
        }
    }

    /** For each set of readings, how many ways there are to give each another feature, and the least cost. */
    private static final class Assignments {
        private final int[] costs = new int[READINGS];
        private final int[] ways = new int[SETS_OF_READINGS];
        private final int[] least = new int[SETS_OF_READINGS];

        private void begin() {
            for (int set = 0; set < SETS_OF_READINGS; set++) {
                ways[set] = set == 0 ? 1 : 0;
                least[set] = set == 0 ? 0 : NONE;
            }
        }

        private void setCost(int reading, int cost) {
            if (reading >= 0 && reading < costs.length) {
                costs[reading] = cost;
            }
        }

        /** Lets one more feature, of which the costs were set, stand for at most one reading. */
        private void addFeature() {
            // From the last set on: what a smaller set has is still without this feature.
            for (int set = SETS_OF_READINGS - 1; set >= 0; set--) {
                for (int reading = 0; reading < READINGS; reading++) {
                    boolean isFree = (set & 1 << reading) == 0;
                    if (isFree && costs[reading] != NONE && ways[set] > 0) {
                        extend(set, set | 1 << reading, costs[reading]);
                    }
                }
            }
        }

        private void extend(int set, int larger, int cost) {
            if (set < 0 || set >= SETS_OF_READINGS || larger < 0 || larger >= SETS_OF_READINGS) {
                return;
            }
            int together = least[set] + cost;
            ways[larger] += ways[set];
            if (least[larger] == NONE || together < least[larger]) {
                least[larger] = together;
            }
        }

        private static int allOf(int readings) {
            return (1 << readings) - 1;
        }

        private int leastFor(int readings) {
            int all = allOf(readings);
            return all >= 0 && all < least.length ? least[all] : NONE;
        }

        private int waysFor(int readings) {
            int all = allOf(readings);
            return all >= 0 && all < ways.length ? ways[all] : 0;
        }
    }
}
