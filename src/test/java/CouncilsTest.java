/** Promises 11 to 16: petition, vote, protest, decide, appeal, petitionOf. */
public final class CouncilsTest {
    public static void main(String[] args) {
        petition();
        petitionLimit();
        vote();
        protest();
        decide();
        decideWhen();
        decideRefused();
        decideWithAllNames();
        appeal();
        appealWhen();
        petitionOf();
        Check.end("CouncilsTest");
    }

    private static NameLand withFeatures(int kind, int count) {
        NameLand land = new NameLand();
        for (int i = 0; i < count; i++) {
            land.feature(kind, i, i);
        }
        return land;
    }

    private static void votes(NameLand land, int petition, int votesFor, int votesAgainst) {
        for (int i = 0; i < votesFor + votesAgainst; i++) {
            land.vote(petition, i, i < votesFor);
        }
    }

    private static void petition() {
        NameLand land = withFeatures(0, 2);
        land.pass(3);
        Check.due("P11 the first", land.petition(1, 2, Check.word("zzzzzzzz"), 33), 0);
        Check.due("P11 the second", land.petition(0, 0, 1, 9999), 1);
        Check.due("P11 OPEN", land.petitionOf(0, 0), 0);
        Check.due("P11 no votes for", land.petitionOf(0, 1), 0);
        Check.due("P11 no votes against", land.petitionOf(0, 2), 0);
        Check.due("P11 no protests", land.petitionOf(0, 3), 0);
        Check.due("P11 not decided", land.petitionOf(0, 4), -1);
        Check.due("P11 is not a name", land.form(1, 2, 9999, 9999), 0);
        Check.fails("P11 no feature", Check.INDEX, () -> land.petition(2, 0, 0, 0));
        Check.fails("P11 no tongue 4", Check.INDEX, () -> land.petition(0, 4, 0, 0));
        Check.fails("P11 no tongue -1", Check.INDEX, () -> land.petition(0, -1, 1, 100));
        Check.fails("P11 no word", Check.ARGUMENT, () -> land.petition(0, 0, 0, 100));
        Check.fails("P11 9 letters", Check.ARGUMENT, () -> land.petition(0, 0, Check.word("aaaaaaaaa"), 100));
        Check.fails("P11 29 days ahead", Check.ARGUMENT, () -> land.petition(0, 0, 1, 32));
        Check.fails("P11 day 0", Check.ARGUMENT, () -> land.petition(0, 0, 1, 0));
        Check.fails("P11 day -1", Check.ARGUMENT, () -> land.petition(0, 0, 1, -1));
        Check.fails("P11 day 10000", Check.ARGUMENT, () -> land.petition(0, 0, 1, 10000));
    }

    private static void petitionLimit() {
        NameLand land = withFeatures(0, 1);
        for (int i = 0; i < 16; i++) {
            Check.due("P11 number", land.petition(0, i % 4, 1, 30), i);
        }
        Check.fails("P11 a 17th", Check.STATE, () -> land.petition(0, 0, 1, 30));
        Check.fails("P11 argument ahead of state", Check.ARGUMENT, () -> land.petition(0, 0, 1, 29));
        Check.fails("P11 index ahead of state", Check.INDEX, () -> land.petition(1, 0, 1, 30));
        Check.due("P11 the last", land.vote(15, 0, true), 1);
    }

    private static void vote() {
        NameLand land = withFeatures(0, 1);
        land.petition(0, 0, 1, 30);
        land.petition(0, 1, 1, 30);
        Check.fails("P12 no petition 2", Check.INDEX, () -> land.vote(2, 0, true));
        Check.fails("P12 no petition -1", Check.INDEX, () -> land.vote(-1, 0, true));
        Check.fails("P12 no councillor 9", Check.INDEX, () -> land.vote(0, 9, true));
        Check.fails("P12 no councillor -1", Check.INDEX, () -> land.vote(0, -1, true));
        Check.due("P12 the first", land.vote(0, 8, true), 1);
        Check.due("P12 against counts too", land.vote(0, 0, false), 2);
        Check.fails("P12 once, for", Check.STATE, () -> land.vote(0, 8, false));
        Check.fails("P12 once, against", Check.STATE, () -> land.vote(0, 0, true));
        Check.due("P12 once for each petition", land.vote(1, 8, false), 1);
        Check.due("P12 for", land.petitionOf(0, 1), 1);
        Check.due("P12 against", land.petitionOf(0, 2), 1);
        for (int i = 1; i <= 7; i++) {
            Check.due("P12 count", land.vote(0, i, true), i + 2);
        }
        land.pass(40);
        Check.due("P12 as long as it is OPEN", land.vote(1, 0, false), 2);
        NameLand other = withFeatures(0, 1);
        other.petition(0, 0, 1, 30);
        votes(other, 0, 5, 0);
        other.decide(0);
        Check.fails("P12 not OPEN", Check.STATE, () -> other.vote(0, 8, true));
        Check.fails("P12 index ahead of state", Check.INDEX, () -> other.vote(0, 9, true));
    }

    private static void protest() {
        NameLand land = withFeatures(0, 1);
        land.petition(0, 0, 1, 30);
        land.petition(0, 1, 1, 30);
        Check.fails("P13 no petition", Check.INDEX, () -> land.protest(2, 0));
        Check.fails("P13 no person 8", Check.INDEX, () -> land.protest(0, 8));
        Check.fails("P13 no person -1", Check.INDEX, () -> land.protest(0, -1));
        Check.due("P13 raised", land.protest(0, 0), true);
        Check.due("P13 another person", land.protest(0, 7), true);
        Check.due("P13 two", land.petitionOf(0, 3), 2);
        Check.due("P13 none of the other petition", land.petitionOf(1, 3), 0);
        Check.due("P13 taken back", land.protest(0, 0), false);
        Check.due("P13 one", land.petitionOf(0, 3), 1);
        Check.due("P13 raised again", land.protest(0, 0), true);
        votes(land, 1, 0, 5);
        land.decide(1);
        Check.fails("P13 not OPEN", Check.STATE, () -> land.protest(1, 0));
        Check.fails("P13 index ahead of state", Check.INDEX, () -> land.protest(1, 8));
    }

    private static void decide() {
        NameLand land = withFeatures(0, 1);
        land.petition(0, 0, Check.word("abc"), 30);
        land.petition(0, 1, Check.word("def"), 30);
        land.petition(0, 2, Check.word("ghi"), 40);
        land.petition(0, 3, Check.word("jkl"), 40);
        Check.fails("P14 no petition", Check.INDEX, () -> land.decide(4));
        Check.fails("P14 no petition -1", Check.INDEX, () -> land.decide(-1));
        Check.fails("P14 no votes", Check.STATE, () -> land.decide(0));
        votes(land, 0, 3, 1);
        Check.fails("P14 4 votes", Check.STATE, () -> land.decide(0));
        land.vote(0, 8, false);
        land.protest(0, 3);
        Check.fails("P14 a protest", Check.STATE, () -> land.decide(0));
        land.protest(0, 3);
        land.pass(2);
        Check.due("P14 DECIDED", land.decide(0), 1);
        Check.fails("P14 not OPEN", Check.STATE, () -> land.decide(0));
        Check.due("P14 told as a name", land.form(0, 0, 30, 2), Check.word("abc"));
        Check.due("P14 from its day on", land.form(0, 0, 29, 2), 0);
        Check.due("P14 known from the day of deciding", land.form(0, 0, 30, 1), 0);
        Check.due("P14 counts among the names", land.name(0, 3, 1, 0), 2);
        votes(land, 1, 2, 3);
        Check.due("P14 REJECTED", land.decide(1), 2);
        Check.due("P14 not told", land.form(0, 1, 30, 2), 0);
        Check.fails("P14 REJECTED is not OPEN", Check.STATE, () -> land.decide(1));
        votes(land, 2, 3, 3);
        Check.due("P14 as many for it as against it", land.decide(2), 2);
        votes(land, 3, 5, 4);
        Check.due("P14 all votes", land.decide(3), 1);
        Check.due("P14 counts among the names again", land.name(0, 3, 1, 0), 4);
    }

    private static void decideWhen() {
        NameLand land = withFeatures(0, 1);
        land.petition(0, 0, 1, 30);
        land.petition(0, 1, 1, 30);
        votes(land, 0, 5, 0);
        votes(land, 1, 5, 0);
        land.pass(29);
        Check.due("P14 on the day ahead", land.decide(0), 1);
        land.pass(1);
        Check.fails("P14 on its day", Check.STATE, () -> land.decide(1));
        land.pass(1);
        Check.fails("P14 behind its day", Check.STATE, () -> land.decide(1));
        Check.due("P14 it stays OPEN", land.petitionOf(1, 0), 0);
    }

    private static void decideRefused() {
        NameLand land = new NameLand();
        land.feature(0, 0, 0);
        land.feature(NameLand.STREET, 1, 1);
        land.feature(NameLand.STREET, 2, 2);
        land.part(1, 0, 0);
        land.part(2, 0, 50);
        long word = Check.word("ab");
        land.petition(2, 0, word, 49);
        land.petition(2, 0, word, 50);
        votes(land, 0, 9, 0);
        votes(land, 1, 9, 0);
        land.name(1, 0, word, 40);
        Check.due("P14 not a part on the day of the name", land.decide(0), 1);
        Check.due("P14 refused", land.decide(1), 2);
        Check.due("P14 the day of being refused", land.petitionOf(1, 4), 0);
        Check.due("P14 only the two names", land.name(0, 0, 1, 0), 3);
    }

    private static void decideWithAllNames() {
        NameLand land = withFeatures(0, 1);
        land.petition(0, 0, 1, 30);
        land.petition(0, 1, 1, 30);
        land.petition(0, 2, 1, 30);
        votes(land, 0, 5, 0);
        votes(land, 1, 5, 0);
        votes(land, 2, 0, 5);
        for (int i = 0; i < 99; i++) {
            land.name(0, 3, 1, 0);
        }
        Check.due("P14 the 100th name", land.decide(0), 1);
        Check.fails("P14 100 names were told", Check.STATE, () -> land.decide(1));
        Check.fails("P14 100 names were told, with votes against it", Check.STATE, () -> land.decide(2));
        Check.fails("P7 100 names were told", Check.STATE, () -> land.name(0, 0, 1, 0));
    }

    private static void appeal() {
        NameLand land = withFeatures(0, 1);
        land.petition(0, 0, Check.word("abc"), 50);
        land.petition(0, 1, Check.word("abc"), 50);
        land.name(0, 0, Check.word("old"), 0);
        Check.fails("P15 no petition", Check.INDEX, () -> land.appeal(2));
        Check.fails("P15 no petition -1", Check.INDEX, () -> land.appeal(-1));
        Check.fails("P15 OPEN", Check.STATE, () -> land.appeal(0));
        votes(land, 0, 5, 0);
        votes(land, 1, 1, 4);
        land.decide(0);
        land.decide(1);
        Check.fails("P15 REJECTED", Check.STATE, () -> land.appeal(1));
        land.pass(7);
        Check.due("P15 days behind", land.appeal(0), 7);
        Check.due("P15 REVERSED", land.petitionOf(0, 0), 3);
        Check.due("P15 the day of deciding stays", land.petitionOf(0, 4), 0);
        Check.due("P15 the name ahead holds", land.form(0, 0, 50, 7), Check.word("old"));
        Check.due("P15 as known ahead", land.form(0, 0, 50, 6), Check.word("abc"));
        Check.fails("P15 REVERSED already", Check.STATE, () -> land.appeal(0));
        Check.due("P15 the name was told", land.name(0, 2, 1, 0), 3);
        Check.due("P15 it is found", land.find(Check.word("abc"), 0, 0, 0), 0);
        land.reading(Check.word("abc"), 0, 0);
        Check.due("P15 it can be read", land.cost(0, 0), 0);
    }

    private static void appealWhen() {
        NameLand land = withFeatures(0, 1);
        land.petition(0, 0, 1, 400);
        land.petition(0, 1, 1, 400);
        land.petition(0, 2, 1, 400);
        votes(land, 0, 5, 0);
        votes(land, 1, 5, 0);
        votes(land, 2, 5, 0);
        land.pass(5);
        land.decide(0);
        land.decide(1);
        land.decide(2);
        Check.due("P15 on the day of deciding", land.appeal(2), 0);
        Check.due("P15 reversed on its day of telling", land.form(0, 2, 400, 5), 0);
        land.pass(60);
        Check.due("P15 60 days behind", land.appeal(0), 60);
        land.pass(1);
        Check.fails("P15 61 days behind", Check.STATE, () -> land.appeal(1));
        Check.due("P15 it stays DECIDED", land.petitionOf(1, 0), 1);
        Check.due("P15 its name stays", land.form(0, 1, 400, 66), 1);
    }

    private static void petitionOf() {
        NameLand land = withFeatures(0, 1);
        land.petition(0, 0, 1, 100);
        land.petition(0, 1, 1, 100);
        Check.fails("P16 no petition 2", Check.INDEX, () -> land.petitionOf(2, 5));
        Check.fails("P16 no petition -1", Check.INDEX, () -> land.petitionOf(-1, 0));
        Check.fails("P16 what 5", Check.ARGUMENT, () -> land.petitionOf(0, 5));
        Check.fails("P16 what -1", Check.ARGUMENT, () -> land.petitionOf(0, -1));
        votes(land, 0, 6, 3);
        votes(land, 1, 2, 4);
        land.protest(1, 5);
        Check.due("P16 for", land.petitionOf(0, 1), 6);
        Check.due("P16 against", land.petitionOf(0, 2), 3);
        Check.due("P16 protests", land.petitionOf(1, 3), 1);
        land.protest(1, 5);
        land.pass(9);
        land.decide(0);
        land.pass(1);
        land.decide(1);
        Check.due("P16 DECIDED", land.petitionOf(0, 0), 1);
        Check.due("P16 the day of deciding", land.petitionOf(0, 4), 9);
        Check.due("P16 REJECTED", land.petitionOf(1, 0), 2);
        Check.due("P16 the day of deciding, REJECTED", land.petitionOf(1, 4), 10);
        Check.due("P16 the votes stay", land.petitionOf(1, 2), 4);
    }
}
