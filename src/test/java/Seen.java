/** All that can be seen of a land from outside, as a text; what is set to be seen is set back. */
final class Seen {
    private static final int[] DAYS = {0, 1, 10, 30, 100, 9999};

    private Seen() {
    }

    static String all(NameLand land) {
        StringBuilder seen = new StringBuilder();
        int feature = 0;
        while (feature < 30 && exists(land, feature)) {
            addFeature(seen, land, feature);
            feature++;
        }
        seen.append(" features ").append(feature);
        addPetitions(seen, land);
        addTables(seen, land);
        addReadings(seen, land, feature);
        int budget = land.budget(0);
        land.budget(budget);
        seen.append(" budget ").append(budget);
        seen.append(" assign ").append(land.assign()).append(" ways ").append(land.ways());
        return seen.toString();
    }

    private static boolean exists(NameLand land, int feature) {
        try {
            land.sign(feature);
            return true;
        } catch (IndexOutOfBoundsException none) {
            return false;
        }
    }

    private static void addFeature(StringBuilder seen, NameLand land, int feature) {
        seen.append(" feature ").append(feature).append(" sign ").append(land.sign(feature));
        for (int day : DAYS) {
            for (int known : DAYS) {
                for (int what = 0; what <= 4; what++) {
                    seen.append(' ').append(land.of(feature, what, day, known));
                }
                for (int tongue = 0; tongue < 4; tongue++) {
                    seen.append(' ').append(land.form(feature, tongue, day, known));
                }
            }
            seen.append(" shown ").append(land.shown(feature, day));
        }
        for (int tongue = 0; tongue < 4; tongue++) {
            seen.append(' ').append(land.display(feature, tongue));
            int hundredths = land.census(feature, tongue, 0);
            land.census(feature, tongue, hundredths);
            seen.append(' ').append(hundredths);
            for (int subscriber = 0; subscriber < 4; subscriber++) {
                seen.append(' ').append(land.copy(subscriber, feature, tongue));
            }
        }
    }

    private static void addPetitions(StringBuilder seen, NameLand land) {
        try {
            for (int petition = 0; petition < 20; petition++) {
                for (int what = 0; what <= 4; what++) {
                    seen.append(' ').append(land.petitionOf(petition, what));
                }
            }
        } catch (IndexOutOfBoundsException none) {
            seen.append(" petitions");
        }
    }

    private static void addTables(StringBuilder seen, NameLand land) {
        for (int table = 0; table < 4; table++) {
            seen.append(" loss ").append(land.loss(table));
            for (int letter = 1; letter <= 26; letter++) {
                seen.append(' ').append(land.write(letter, table));
            }
        }
    }

    private static void addReadings(StringBuilder seen, NameLand land, int features) {
        try {
            for (int reading = 0; reading < 6; reading++) {
                land.cost(reading, 0);
                for (int feature = 0; feature < features; feature++) {
                    seen.append(' ').append(land.cost(reading, feature));
                }
            }
        } catch (IndexOutOfBoundsException none) {
            seen.append(" readings");
        }
    }
}
