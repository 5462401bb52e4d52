/** Promises 11 to 16, a test for each sentence that names a boundary: petition, vote, protest, decide, appeal, petitionOf. */
public final class CouncilEdgesTest {
    private static final int OPEN = 0;
    private static final int DECIDED = 1;
    private static final int REJECTED = 2;
    private static final int REVERSED = 3;
    private static final long OAK = Check.word("oak");

    private static final Recipe TWO = land -> {
        land.feature(0, 10, 20);
        land.feature(1, 30, 40);
    };
    /** Petitions 0, 1 and 2 of one feature for day 100, told on day 10. */
    private static final Recipe ASKED = land -> {
        TWO.make(land);
        land.pass(10);
        for (int tongue = 0; tongue < 3; tongue++) {
            land.petition(0, tongue, OAK, 100);
        }
    };
    private static final Recipe ALL_PETITIONS = land -> {
        TWO.make(land);
        for (int i = 0; i < 16; i++) {
            land.petition(i % 2, i % 4, 1 + i, 30 + i);
        }
    };

    public static void main(String[] args) {
        Edges.run(CouncilEdgesTest.class);
    }

    private static void votes(NameLand land, int petition, int votesFor, int votesAgainst) {
        for (int i = 0; i < votesFor + votesAgainst; i++) {
            land.vote(petition, i, i < votesFor);
        }
    }

    /** ASKED, with votes for petition 0. */
    private static Recipe voted(int votesFor, int votesAgainst) {
        return land -> {
            ASKED.make(land);
            votes(land, 0, votesFor, votesAgainst);
        };
    }

    /** Petition 0 is DECIDED on day 10, petition 1 is REJECTED, petition 2 is REVERSED, petition 3 is OPEN. */
    private static final Recipe ALL_STATES = land -> {
        ASKED.make(land);
        land.petition(1, 0, OAK, 100);
        votes(land, 0, 5, 0);
        votes(land, 1, 0, 5);
        votes(land, 2, 5, 4);
        for (int i = 0; i < 3; i++) {
            land.decide(i);
        }
        land.appeal(2);
    };

    // ---- promise 11

    @Says(promise = 11, words = "- `feature`: a feature")
    private static void p11_feature_exists() {
        Check.range(TWO, Check.INDEX, 0, 1, (land, feature) -> land.petition(feature, 0, OAK, 30));
    }

    @Says(promise = 11, words = "- `tongue`: 0 to 3")
    private static void p11_tongue_is_0_to_3() {
        Check.range(TWO, Check.INDEX, 0, 3, (land, tongue) -> land.petition(0, tongue, OAK, 30));
    }

    @Says(promise = 11, words = "- `word`: a word of at most 8 letters")
    private static void p11_word_has_1_to_8_letters() {
        Check.words(TWO, 8, (land, word) -> land.petition(0, 0, word, 30));
        NameLand land = Check.land(TWO);
        land.petition(0, 0, Check.word("zzzzzzzz"), 30);
        votes(land, 0, 5, 0);
        land.decide(0);
        Check.due("the highest, as a name", land.form(0, 0, 30, 0), 282429536480L);
    }

    @Says(promise = 11, words = "- `day`: 0 to 9999")
    private static void p11_day_is_30_ahead_to_9999() {
        Check.range(TWO, Check.ARGUMENT, 30, 9999, (land, day) -> land.petition(0, 0, OAK, day));
    }

    @Says(promise = 0, words = "A petition asks for a name of a feature in a tongue, from a day on that is at least 30 days ahead.")
    private static void p11_at_least_30_days_ahead() {
        Recipe day5 = land -> {
            TWO.make(land);
            land.pass(5);
        };
        Check.takes("30 days ahead", day5, land -> land.petition(0, 0, OAK, 35));
        Check.refuses("29 days ahead", day5, Check.ARGUMENT, land -> land.petition(0, 0, OAK, 34));
        Check.refuses("the present day", day5, Check.ARGUMENT, land -> land.petition(0, 0, OAK, 5));
        Check.refuses("a day that was", day5, Check.ARGUMENT, land -> land.petition(0, 0, OAK, 0));
    }

    @Says(promise = 11, words = "Throws `IllegalArgumentException` if word is none, or day is out of range, or less than 30 days ahead")
    private static void p11_the_last_petition_is_told_on_day_9969() {
        NameLand land = Check.land(TWO);
        for (int i = 0; i < 24; i++) {
            land.pass(400);
        }
        Check.due("the day", land.pass(369), 9969);
        Check.due("30 days ahead of the last day", land.petition(0, 0, OAK, 9999), 0);
        land.pass(1);
        Check.fails("29 days ahead of the last day", Check.ARGUMENT, () -> land.petition(0, 0, OAK, 9999));
        Check.fails("30 days ahead, behind the last day", Check.ARGUMENT, () -> land.petition(0, 0, OAK, 10000));
        Check.due("the one that was told", land.petitionOf(0, 0), OPEN);
    }

    @Says(promise = 11, words = "Throws `IndexOutOfBoundsException` if there is no such feature or tongue")
    private static void p11_no_tongue_goes_ahead_of_the_arguments() {
        Check.refuses("feature, word", TWO, Check.INDEX, land -> land.petition(2, 0, 0, 30));
        Check.refuses("feature, day", TWO, Check.INDEX, land -> land.petition(-1, 0, OAK, 29));
        Check.refuses("tongue, word", TWO, Check.INDEX, land -> land.petition(0, 4, 0, 30));
        Check.refuses("tongue, day", TWO, Check.INDEX, land -> land.petition(0, -1, OAK, 10000));
    }

    @Says(promise = 11, words = "Returns its number.")
    private static void p11_numbers_are_from_0() {
        NameLand land = Check.land(TWO);
        for (int i = 0; i < 16; i++) {
            Check.due("the number", land.petition(i % 2, i % 4, OAK, 30), i);
        }
    }

    @Says(promise = 0, words = "Petitions are numbered from 0, at most 16")
    private static void p11_at_most_16_petitions() {
        NameLand land = Check.land(ALL_PETITIONS);
        Check.fails("a 17th", Check.STATE, () -> land.petition(0, 0, OAK, 30));
        Check.fails("a 17th of the other feature", Check.STATE, () -> land.petition(1, 3, OAK, 9999));
        Check.due("the 16th", land.petitionOf(15, 0), OPEN);
        Check.fails("a petition 16", Check.INDEX, () -> land.petitionOf(16, 0));
        votes(land, 0, 0, 5);
        land.decide(0);
        Check.fails("a 17th, though one is REJECTED", Check.STATE, () -> land.petition(0, 0, OAK, 30));
    }

    @Says(promise = 11, words = "Throws `IllegalStateException` as told above")
    private static void p11_a_17th_petition_changes_nothing() {
        Check.refuses("a 17th", ALL_PETITIONS, Check.STATE, land -> land.petition(0, 0, OAK, 30));
    }

    @Says(promise = 11, words = "Throws `IllegalArgumentException` if word is none, or day is out of range, or less than 30 days ahead")
    private static void p11_the_argument_goes_ahead_of_a_17th_petition() {
        Check.refuses("word", ALL_PETITIONS, Check.ARGUMENT, land -> land.petition(0, 0, 0, 30));
        Check.refuses("day", ALL_PETITIONS, Check.ARGUMENT, land -> land.petition(0, 0, OAK, 29));
        Check.refuses("tongue", ALL_PETITIONS, Check.INDEX, land -> land.petition(0, 4, OAK, 30));
    }

    @Says(promise = 11, words = "Throws `IllegalArgumentException` if word is none, or day is out of range, or less than 30 days ahead")
    private static void p11_a_refused_petition_does_not_count() {
        NameLand land = Check.land(TWO);
        for (int i = 0; i < 17; i++) {
            Check.fails("word", Check.ARGUMENT, () -> land.petition(0, 0, 27, 30));
            Check.fails("day", Check.ARGUMENT, () -> land.petition(0, 0, OAK, 29));
            Check.fails("feature", Check.INDEX, () -> land.petition(2, 0, OAK, 30));
        }
        Check.due("the first number", land.petition(0, 0, OAK, 30), 0);
    }

    @Says(promise = 0, words = "a petition is OPEN 0, DECIDED 1, REJECTED 2 or REVERSED 3.")
    private static void p11_a_new_petition_is_open() {
        NameLand land = Check.land(ASKED);
        int[] want = {OPEN, 0, 0, 0, -1};
        for (int what = 0; what < 5; what++) {
            Check.due("what " + what, land.petitionOf(2, what), want[what]);
        }
        Check.due("no name was told", land.form(0, 2, 9999, 9999), 0);
        Check.due("no name counts", land.name(0, 3, OAK, 0), 1);
    }

    @Says(promise = 11, words = "Tells a petition.")
    private static void p11_a_petition_is_not_refused() {
        Recipe streets = land -> {
            land.feature(0, 0, 0);
            land.feature(5, 1, 1);
            land.feature(5, 2, 2);
            land.part(1, 0, 0);
            land.part(2, 0, 0);
            land.name(1, 0, OAK, 0);
        };
        Check.takes("a word that is refused as a name", streets, land -> land.petition(2, 0, OAK, 30));
    }

    // ---- promise 12

    @Says(promise = 12, words = "- `petition`: a petition")
    private static void p12_petition_exists() {
        Check.range(ASKED, Check.INDEX, 0, 2, (land, petition) -> land.vote(petition, 0, true));
        Check.range(ALL_PETITIONS, Check.INDEX, 0, 15, (land, petition) -> land.vote(petition, 0, true));
    }

    @Says(promise = 12, words = "- `councillor`: 0 to 8")
    private static void p12_councillor_is_0_to_8() {
        Check.range(ASKED, Check.INDEX, 0, 8, (land, councillor) -> land.vote(0, councillor, true));
        Check.range(ASKED, Check.INDEX, 0, 8, (land, councillor) -> land.vote(0, councillor, false));
        int[] wrong = {31, 32, 33, 64};
        for (int councillor : wrong) {
            Check.refuses("councillor " + councillor, ASKED, Check.INDEX, land -> land.vote(0, councillor, true));
        }
    }

    @Says(promise = 12, words = "- `isFor`: whether the vote is for it")
    private static void p12_for_and_against() {
        NameLand land = Check.land(ASKED);
        land.vote(0, 0, true);
        land.vote(0, 8, false);
        land.vote(0, 4, false);
        Check.due("for", land.petitionOf(0, 1), 1);
        Check.due("against", land.petitionOf(0, 2), 2);
        Check.due("of another petition, for", land.petitionOf(1, 1), 0);
        Check.due("of another petition, against", land.petitionOf(1, 2), 0);
    }

    @Says(promise = 12, words = "Returns how many votes there are then.")
    private static void p12_1_to_9_votes() {
        NameLand land = Check.land(ASKED);
        for (int i = 0; i < 9; i++) {
            Check.due("all for", land.vote(0, 8 - i, true), i + 1);
        }
        for (int i = 0; i < 9; i++) {
            Check.due("all against", land.vote(1, i, false), i + 1);
        }
        for (int i = 0; i < 9; i++) {
            Check.due("both", land.vote(2, i, i % 2 == 0), i + 1);
        }
        for (int i = 0; i < 9; i++) {
            int councillor = i;
            Check.fails("a 10th", Check.STATE, () -> land.vote(0, councillor, false));
        }
    }

    @Says(promise = 0, words = "Councillors, 0 to 8, vote once for an OPEN one, for or against.")
    private static void p12_a_councillor_votes_once() {
        Recipe recipe = land -> {
            ASKED.make(land);
            land.vote(0, 8, true);
            land.vote(0, 0, false);
        };
        Check.refuses("for again", recipe, Check.STATE, land -> land.vote(0, 8, true));
        Check.refuses("against, who was for", recipe, Check.STATE, land -> land.vote(0, 8, false));
        Check.refuses("against again", recipe, Check.STATE, land -> land.vote(0, 0, false));
        Check.refuses("for, who was against", recipe, Check.STATE, land -> land.vote(0, 0, true));
        Check.takes("for another petition", recipe, land -> land.vote(1, 8, true));
        Check.takes("another councillor", recipe, land -> land.vote(0, 7, true));
    }

    @Says(promise = 12, words = "Throws `IllegalStateException` if it is not OPEN, or the councillor has voted")
    private static void p12_only_for_an_open_one() {
        for (int i = 0; i < 3; i++) {
            int petition = i;
            Check.refuses("state of " + i, ALL_STATES, Check.STATE, land -> land.vote(petition, 8, true));
        }
        Check.takes("OPEN", ALL_STATES, land -> land.vote(3, 8, true));
    }

    @Says(promise = 12, words = "Throws `IndexOutOfBoundsException` if there is no such petition or councillor")
    private static void p12_no_councillor_goes_ahead_of_the_state() {
        Check.refuses("councillor, not OPEN", ALL_STATES, Check.INDEX, land -> land.vote(0, 9, true));
        Check.refuses("councillor -1, not OPEN", ALL_STATES, Check.INDEX, land -> land.vote(1, -1, true));
        Check.refuses("petition", ALL_STATES, Check.INDEX, land -> land.vote(4, 0, true));
        Check.refuses("both", ALL_STATES, Check.INDEX, land -> land.vote(-1, -1, true));
    }

    @Says(promise = 12, words = "Throws `IllegalStateException` if it is not OPEN, or the councillor has voted")
    private static void p12_an_open_one_behind_its_day_takes_votes() {
        NameLand land = Check.land(ASKED);
        land.pass(90);
        Check.due("on its day", land.vote(0, 0, true), 1);
        land.pass(400);
        Check.due("behind its day", land.vote(0, 1, true), 2);
        Check.due("OPEN still", land.petitionOf(0, 0), OPEN);
    }

    // ---- promise 13

    @Says(promise = 13, words = "- `petition`: a petition")
    private static void p13_petition_exists() {
        Check.range(ASKED, Check.INDEX, 0, 2, (land, petition) -> land.protest(petition, 0));
        Check.range(ALL_PETITIONS, Check.INDEX, 0, 15, (land, petition) -> land.protest(petition, 0));
    }

    @Says(promise = 13, words = "- `person`: 0 to 7")
    private static void p13_person_is_0_to_7() {
        Check.range(ASKED, Check.INDEX, 0, 7, (land, person) -> land.protest(0, person));
        int[] wrong = {9, 31, 32, 33};
        for (int person : wrong) {
            Check.refuses("person " + person, ASKED, Check.INDEX, land -> land.protest(0, person));
        }
    }

    @Says(promise = 13, words = "Returns true if there is one by that person then.")
    private static void p13_raised_and_taken_back() {
        NameLand land = Check.land(ASKED);
        for (int person = 0; person < 8; person++) {
            Check.due("raised by " + person, land.protest(0, person), true);
            Check.due("how many", land.petitionOf(0, 3), person + 1);
        }
        for (int person = 0; person < 8; person++) {
            Check.due("taken back by " + person, land.protest(0, person), false);
            Check.due("how many are left", land.petitionOf(0, 3), 7 - person);
        }
        Check.due("raised again", land.protest(0, 7), true);
        Check.due("against another petition", land.petitionOf(1, 3), 0);
    }

    @Says(promise = 0, words = "A protest is raised against an OPEN one, at most once for each person, 0 to 7; it can be taken back.")
    private static void p13_at_most_once_for_each_person() {
        NameLand land = Check.land(ASKED);
        land.protest(0, 3);
        land.protest(1, 3);
        Check.due("one", land.petitionOf(0, 3), 1);
        land.protest(0, 3);
        Check.due("not two", land.petitionOf(0, 3), 0);
        Check.due("the other petition", land.petitionOf(1, 3), 1);
    }

    @Says(promise = 13, words = "Throws `IllegalStateException` if it is not OPEN")
    private static void p13_only_against_an_open_one() {
        for (int i = 0; i < 3; i++) {
            int petition = i;
            Check.refuses("state of " + i, ALL_STATES, Check.STATE, land -> land.protest(petition, 0));
        }
        Check.takes("OPEN", ALL_STATES, land -> land.protest(3, 0));
    }

    @Says(promise = 13, words = "Throws `IndexOutOfBoundsException` if there is no such petition or person")
    private static void p13_no_person_goes_ahead_of_the_state() {
        Check.refuses("person 8", ALL_STATES, Check.INDEX, land -> land.protest(0, 8));
        Check.refuses("person -1", ALL_STATES, Check.INDEX, land -> land.protest(2, -1));
        Check.refuses("petition", ALL_STATES, Check.INDEX, land -> land.protest(4, 0));
    }

    // ---- promise 14

    @Says(promise = 14, words = "- `petition`: a petition")
    private static void p14_petition_exists() {
        Recipe allVoted = land -> {
            ASKED.make(land);
            for (int i = 0; i < 3; i++) {
                votes(land, i, 5, 0);
            }
        };
        Check.range(allVoted, Check.INDEX, 0, 2, NameLand::decide);
    }

    @Says(promise = 14, words = "Throws `IndexOutOfBoundsException` if there is no such petition")
    private static void p14_no_petition_at_all() {
        Check.refuses("without petitions", TWO, Check.INDEX, land -> land.decide(0));
        Check.refuses("behind the 16th", ALL_PETITIONS, Check.INDEX, land -> land.decide(16));
    }

    @Says(promise = 0, words = "To decide, ahead of the day from which the name would hold, 5 votes are needed, and no protest")
    private static void p14_5_votes_are_needed() {
        Check.refuses("none", ASKED, Check.STATE, land -> land.decide(0));
        for (int votesFor = 0; votesFor <= 4; votesFor++) {
            Check.refuses("4, for " + votesFor, voted(votesFor, 4 - votesFor), Check.STATE, land -> land.decide(0));
        }
        for (int votesFor = 0; votesFor <= 5; votesFor++) {
            Check.takes("5, for " + votesFor, voted(votesFor, 5 - votesFor), land -> land.decide(0));
        }
        Check.takes("9", voted(9, 0), land -> land.decide(0));
        Check.refuses("those of another petition do not count", voted(9, 0), Check.STATE, land -> land.decide(1));
    }

    @Says(promise = 0, words = "To decide, ahead of the day from which the name would hold, 5 votes are needed, and no protest")
    private static void p14_no_protest_may_be_left() {
        for (int i = 0; i < 8; i++) {
            int person = i;
            Recipe recipe = land -> {
                voted(5, 0).make(land);
                land.protest(0, person);
            };
            Check.refuses("a protest by " + i, recipe, Check.STATE, land -> land.decide(0));
        }
        Recipe takenBack = land -> {
            voted(5, 0).make(land);
            land.protest(0, 1);
            land.protest(0, 1);
            land.protest(1, 1);
        };
        Check.takes("taken back", takenBack, land -> land.decide(0));
        Check.refuses("one that would be REJECTED", land -> {
            voted(0, 5).make(land);
            land.protest(0, 0);
        }, Check.STATE, land -> land.decide(0));
    }

    @Says(promise = 0, words = "To decide, ahead of the day from which the name would hold, 5 votes are needed, and no protest")
    private static void p14_ahead_of_the_day_of_the_name() {
        for (int days = 88; days <= 91; days++) {
            int passed = days;
            Recipe recipe = land -> {
                voted(5, 0).make(land);
                land.pass(passed);
            };
            if (days < 90) {
                Check.takes("on day " + (10 + days), recipe, land -> land.decide(0));
            } else {
                Check.refuses("on day " + (10 + days), recipe, Check.STATE, land -> land.decide(0));
            }
        }
    }

    @Says(promise = 0, words = "if more are for it than against it, and the name is not refused, it is DECIDED, "
        + "and told as a name, otherwise REJECTED.")
    private static void p14_more_for_it_than_against_it() {
        for (int all = 5; all <= 9; all++) {
            for (int votesFor = 0; votesFor <= all; votesFor++) {
                NameLand land = Check.land(voted(votesFor, all - votesFor));
                int want = votesFor > all - votesFor ? DECIDED : REJECTED;
                Check.due("for " + votesFor + " of " + all, land.decide(0), want);
                Check.due("its state, for " + votesFor + " of " + all, land.petitionOf(0, 0), want);
            }
        }
    }

    @Says(promise = 0, words = "if more are for it than against it, and the name is not refused, it is DECIDED, "
        + "and told as a name, otherwise REJECTED.")
    private static void p14_a_decided_one_is_told_as_a_name() {
        NameLand land = Check.land(voted(5, 4));
        Check.due("DECIDED", land.decide(0), DECIDED);
        Check.due("ahead of its day", land.form(0, 0, 99, 10), 0);
        Check.due("from its day on", land.form(0, 0, 100, 10), OAK);
        Check.due("known the day ahead of deciding", land.form(0, 0, 100, 9), 0);
        Check.due("in no other tongue", land.form(0, 1, 100, 10), 0);
        Check.due("counted", land.name(1, 0, OAK, 0), 2);
    }

    @Says(promise = 0, words = "if more are for it than against it, and the name is not refused, it is DECIDED, "
        + "and told as a name, otherwise REJECTED.")
    private static void p14_a_rejected_one_is_not_told_as_a_name() {
        NameLand land = Check.land(voted(3, 3));
        Check.due("REJECTED", land.decide(0), REJECTED);
        Check.due("no name", land.form(0, 0, 9999, 9999), 0);
        Check.due("not counted", land.name(1, 0, 1, 0), 1);
        Check.due("not found", land.find(OAK, 0, 0, 0), -1);
    }

    @Says(promise = 0, words = "of several what was told last.")
    private static void p14_it_is_told_on_the_day_of_deciding() {
        NameLand land = Check.land(voted(5, 0));
        land.name(0, 0, 1, 100);
        land.decide(0);
        Check.due("behind a name that was told", land.form(0, 0, 100, 10), OAK);
        land.name(0, 0, 2, 100);
        Check.due("ahead of a name that is told", land.form(0, 0, 100, 10), 2);
    }

    @Says(promise = 0, words = "A name of a STREET that is a part of something on the day from which it is to hold is refused")
    private static void p14_a_refused_name_is_rejected() {
        for (int day = 49; day <= 51; day++) {
            NameLand land = new NameLand();
            land.feature(0, 0, 0);
            land.feature(5, 1, 1);
            land.feature(5, 2, 2);
            land.part(1, 0, 0);
            land.part(2, 0, 0);
            land.petition(2, 0, OAK, day);
            votes(land, 0, 9, 0);
            land.pass(1);
            land.name(1, 0, OAK, 50);
            Check.due("for day " + day, land.decide(0), day < 50 ? DECIDED : REJECTED);
            Check.due("the name for day " + day, land.form(2, 0, 9999, 1), day < 50 ? OAK : 0);
        }
    }

    @Says(promise = 0, words = "all as known on the present day.")
    private static void p14_refused_as_known_on_the_day_of_deciding() {
        NameLand land = new NameLand();
        land.feature(0, 0, 0);
        land.feature(5, 1, 1);
        land.feature(5, 2, 2);
        land.part(1, 0, 0);
        land.part(2, 0, 0);
        land.name(1, 0, OAK, 0);
        land.petition(2, 0, OAK, 50);
        land.petition(2, 1, OAK, 50);
        votes(land, 0, 5, 0);
        votes(land, 1, 5, 0);
        land.pass(3);
        land.name(1, 0, 1, 40);
        land.name(1, 1, OAK, 50);
        Check.due("free since the day", land.decide(0), DECIDED);
        Check.due("taken since the day", land.decide(1), REJECTED);
    }

    @Says(promise = 14, words = "Throws `IllegalStateException` if it is not OPEN, or cannot be decided now, or 100 names were told")
    private static void p14_only_an_open_one() {
        for (int i = 0; i < 3; i++) {
            int petition = i;
            Check.refuses("state of " + i, ALL_STATES, Check.STATE, land -> land.decide(petition));
        }
    }

    @Says(promise = 14, words = "Returns its state then.")
    private static void p14_the_state_then() {
        NameLand land = Check.land(ASKED);
        votes(land, 0, 5, 4);
        votes(land, 1, 4, 5);
        Check.due("DECIDED", land.decide(0), DECIDED);
        Check.due("REJECTED", land.decide(1), REJECTED);
        Check.due("DECIDED stays", land.petitionOf(0, 0), DECIDED);
        Check.due("REJECTED stays", land.petitionOf(1, 0), REJECTED);
        Check.due("the third one stays OPEN", land.petitionOf(2, 0), OPEN);
    }

    private static Recipe withNames(int names, int votesFor, int votesAgainst) {
        return land -> {
            voted(votesFor, votesAgainst).make(land);
            for (int i = 0; i < names; i++) {
                land.name(1, i % 4, 1, i);
            }
        };
    }

    @Says(promise = 14, words = "Throws `IllegalStateException` if it is not OPEN, or cannot be decided now, or 100 names were told")
    private static void p14_100_names_were_told() {
        NameLand land = Check.land(withNames(99, 5, 0));
        Check.due("the 100th name", land.decide(0), DECIDED);
        Check.due("it holds", land.form(0, 0, 100, 10), OAK);
        Check.fails("a 101st", Check.STATE, () -> land.name(0, 0, 1, 0));
        Check.refuses("a 101st by a council", withNames(100, 5, 0), Check.STATE, made -> made.decide(0));
        Check.refuses("also with votes against it", withNames(100, 0, 5), Check.STATE, made -> made.decide(0));
        Check.takes("REJECTED with 99", withNames(99, 0, 5), made -> made.decide(0));
    }

    @Says(promise = 14, words = "Throws `IndexOutOfBoundsException` if there is no such petition")
    private static void p14_no_petition_goes_ahead_of_100_names() {
        Check.refuses("petition 3", withNames(100, 5, 0), Check.INDEX, land -> land.decide(3));
        Check.refuses("petition -1", withNames(100, 5, 0), Check.INDEX, land -> land.decide(-1));
    }

    // ---- promise 15

    @Says(promise = 15, words = "- `petition`: a petition")
    private static void p15_petition_exists() {
        Recipe allDecided = land -> {
            ASKED.make(land);
            for (int i = 0; i < 3; i++) {
                votes(land, i, 5, 0);
                land.decide(i);
            }
        };
        Check.range(allDecided, Check.INDEX, 0, 2, NameLand::appeal);
    }

    @Says(promise = 15, words = "Throws `IndexOutOfBoundsException` if there is no such petition")
    private static void p15_no_petition_goes_ahead_of_the_state() {
        Check.refuses("without petitions", TWO, Check.INDEX, land -> land.appeal(0));
        Check.refuses("behind the 16th", ALL_PETITIONS, Check.INDEX, land -> land.appeal(16));
        Check.refuses("behind all", ALL_STATES, Check.INDEX, land -> land.appeal(4));
    }

    @Says(promise = 15, words = "Throws `IllegalStateException` if it is not DECIDED, or that was more than 60 days ago")
    private static void p15_only_against_a_decided_one() {
        Check.takes("DECIDED", ALL_STATES, land -> land.appeal(0));
        Check.refuses("REJECTED", ALL_STATES, Check.STATE, land -> land.appeal(1));
        Check.refuses("REVERSED", ALL_STATES, Check.STATE, land -> land.appeal(2));
        Check.refuses("OPEN", ALL_STATES, Check.STATE, land -> land.appeal(3));
    }

    private static Recipe decidedAgo(int days) {
        return land -> {
            voted(5, 0).make(land);
            land.decide(0);
            if (days > 0) {
                land.pass(days);
            }
        };
    }

    @Says(promise = 0, words = "Until 60 days behind the day of deciding it can be REVERSED by an appeal: its name is reversed.")
    private static void p15_until_60_days_behind() {
        int[] taken = {0, 1, 59, 60};
        for (int days : taken) {
            NameLand land = Check.land(decidedAgo(days));
            Check.due("days behind", land.appeal(0), days);
            Check.due("REVERSED", land.petitionOf(0, 0), REVERSED);
        }
        int[] refused = {61, 62, 400};
        for (int days : refused) {
            Check.refuses(days + " days behind", decidedAgo(days), Check.STATE, land -> land.appeal(0));
            Check.due("DECIDED still", Check.land(decidedAgo(days)).petitionOf(0, 0), DECIDED);
        }
    }

    @Says(promise = 15, words = "Returns how many days behind the day of deciding.")
    private static void p15_also_behind_the_day_of_the_name() {
        NameLand land = Check.land(voted(5, 0));
        land.pass(89);
        land.decide(0);
        land.pass(60);
        Check.due("the name holds", land.form(0, 0, 149, 159), OAK);
        Check.due("60 days behind", land.appeal(0), 60);
        Check.due("the name does not hold", land.form(0, 0, 149, 159), 0);
    }

    @Says(promise = 0, words = "one that is reversed counts no more, as known from that day on.")
    private static void p15_a_reversed_name_counts_no_more() {
        NameLand land = Check.land(voted(5, 0));
        land.name(0, 0, 1, 50);
        land.pass(5);
        land.decide(0);
        land.pass(7);
        land.appeal(0);
        Check.due("known ahead of deciding", land.form(0, 0, 100, 14), 1);
        Check.due("known on the day of deciding", land.form(0, 0, 100, 15), OAK);
        Check.due("known the day ahead of the appeal", land.form(0, 0, 100, 21), OAK);
        Check.due("known on the day of the appeal", land.form(0, 0, 100, 22), 1);
        Check.due("known on the last day", land.form(0, 0, 9999, 9999), 1);
    }

    @Says(promise = 0, words = "one that is reversed counts no more, as known from that day on.")
    private static void p15_reversed_on_the_day_of_deciding() {
        NameLand land = Check.land(decidedAgo(0));
        land.appeal(0);
        Check.due("known the day ahead", land.form(0, 0, 100, 9), 0);
        Check.due("known on the day", land.form(0, 0, 100, 10), 0);
        Check.due("known behind it", land.form(0, 0, 100, 11), 0);
    }

    @Says(promise = 0, words = "one that is reversed counts no more, as known from that day on.")
    private static void p15_a_reversed_name_does_not_refuse() {
        NameLand land = new NameLand();
        land.feature(0, 0, 0);
        land.feature(5, 1, 1);
        land.feature(5, 2, 2);
        land.part(1, 0, 0);
        land.part(2, 0, 0);
        land.petition(1, 0, OAK, 50);
        votes(land, 0, 5, 0);
        land.decide(0);
        Check.fails("refused", Check.STATE, () -> land.name(2, 0, OAK, 50));
        land.appeal(0);
        Check.due("not refused any more", land.name(2, 0, OAK, 50), 2);
    }

    @Says(promise = 0, words = "Nothing that was told is deleted.")
    private static void p15_a_reversed_name_still_counts_as_told() {
        NameLand land = Check.land(withNames(99, 5, 0));
        land.decide(0);
        land.appeal(0);
        Check.fails("a 101st", Check.STATE, () -> land.name(0, 0, 1, 0));
        Check.due("it is found", land.find(OAK, 0, 0, 0), 0);
        land.reading(OAK, 10, 20);
        Check.due("it can be read", land.cost(0, 0), 0);
    }

    // ---- promise 16

    @Says(promise = 16, words = "- `petition`: a petition")
    private static void p16_petition_exists() {
        for (int i = 0; i < 5; i++) {
            int what = i;
            Check.range(ASKED, Check.INDEX, 0, 2, (land, petition) -> land.petitionOf(petition, what));
        }
        Check.range(ALL_PETITIONS, Check.INDEX, 0, 15, (land, petition) -> land.petitionOf(petition, 0));
    }

    @Says(promise = 16, words = "- `what`: 0 its state, 1 votes for it, 2 votes against it, 3 protests, "
        + "4 the day of deciding, -1 if it was not decided")
    private static void p16_what_is_0_to_4() {
        Check.range(ASKED, Check.ARGUMENT, 0, 4, (land, what) -> land.petitionOf(0, what));
        NameLand land = Check.land(ASKED);
        votes(land, 1, 2, 3);
        land.protest(1, 0);
        int[] want = {OPEN, 2, 3, 1, -1};
        for (int what = 0; what < 5; what++) {
            Check.due("what " + what, land.petitionOf(1, what), want[what]);
        }
    }

    @Says(promise = 16, words = "Throws `IllegalArgumentException` if what is out of range")
    private static void p16_what_of_each_state() {
        for (int i = 0; i < 4; i++) {
            int petition = i;
            Check.range(ALL_STATES, Check.ARGUMENT, 0, 4, (land, what) -> land.petitionOf(petition, what));
        }
    }

    @Says(promise = 16, words = "Throws `IndexOutOfBoundsException` if there is no such petition")
    private static void p16_no_petition_goes_ahead_of_what() {
        Check.refuses("what 5", ASKED, Check.INDEX, land -> land.petitionOf(3, 5));
        Check.refuses("what -1", ASKED, Check.INDEX, land -> land.petitionOf(-1, -1));
        Check.refuses("without petitions", TWO, Check.INDEX, land -> land.petitionOf(0, 5));
    }

    @Says(promise = 0, words = "a petition is OPEN 0, DECIDED 1, REJECTED 2 or REVERSED 3.")
    private static void p16_the_states() {
        NameLand land = Check.land(ALL_STATES);
        int[] want = {DECIDED, REJECTED, REVERSED, OPEN};
        for (int petition = 0; petition < 4; petition++) {
            Check.due("petition " + petition, land.petitionOf(petition, 0), want[petition]);
        }
    }

    @Says(promise = 16, words = "- `what`: 0 its state, 1 votes for it, 2 votes against it, 3 protests, "
        + "4 the day of deciding, -1 if it was not decided")
    private static void p16_the_day_of_deciding() {
        NameLand land = Check.land(ALL_STATES);
        int[] want = {10, 10, 10, -1};
        land.pass(20);
        for (int petition = 0; petition < 4; petition++) {
            Check.due("petition " + petition, land.petitionOf(petition, 4), want[petition]);
        }
        NameLand first = Check.land(TWO);
        first.petition(0, 0, OAK, 30);
        votes(first, 0, 5, 0);
        first.decide(0);
        Check.due("decided on day 0", first.petitionOf(0, 4), 0);
    }

    @Says(promise = 16, words = "Returns something of a petition.")
    private static void p16_votes_and_protests_of_none_and_all() {
        NameLand land = Check.land(ASKED);
        votes(land, 0, 9, 0);
        votes(land, 1, 0, 9);
        for (int person = 0; person < 8; person++) {
            land.protest(2, person);
        }
        int[][] want = {{9, 0, 0}, {0, 9, 0}, {0, 0, 8}};
        for (int petition = 0; petition < 3; petition++) {
            for (int what = 1; what <= 3; what++) {
                Check.due("petition " + petition + ", what " + what, land.petitionOf(petition, what), want[petition][what - 1]);
            }
        }
        land.decide(0);
        Check.due("the votes stay", land.petitionOf(0, 1), 9);
    }
}
