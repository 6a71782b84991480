/** Rolls to begin a test with. */
final class Rolls {
    private static final int NONE = OfficeholdersRoll.NONE;

    private Rolls() {
    }

    /** Mentions of which any two weigh 8: each of the name, family, place and post 0. */
    static CountedRoll alike(int mentions) {
        CountedRoll roll = new CountedRoll();
        for (int k = 0; k < mentions; k++) {
            roll.mention(0, 0, 0, 0);
        }
        return roll;
    }

    /** Mentions of one person, alike but for their posts. */
    static CountedRoll onePerson(int... posts) {
        CountedRoll roll = new CountedRoll();
        for (int mention = 0; mention < posts.length; mention++) {
            roll.mention(0, 0, 0, posts[mention]);
            if (mention > 0) {
                roll.join(0, mention);
            }
        }
        return roll;
    }

    /** Mentions alike, and so many persons: 0 and 1 were joined and split for them, and are apart. */
    static CountedRoll withPersons(int mentions, int persons) {
        CountedRoll roll = alike(mentions);
        for (int number = mentions; number < persons; number++) {
            roll.join(0, 1);
            roll.split(1);
        }
        return roll;
    }

    /** Three mentions alike, and so many tellings, each one ahead of the next one by a gap of -50 to -41. */
    static CountedRoll withTellings(int tellings) {
        CountedRoll roll = alike(3);
        for (int k = 0; k < tellings; k++) {
            roll.ahead(k % 3, (k + 1) % 3, k % 10 - 50);
        }
        return roll;
    }

    /** Six mentions and seven persons, of which something was told by each call there is. */
    static CountedRoll busy() {
        CountedRoll roll = new CountedRoll();
        roll.mention(1, 2, 0, 3);
        roll.mention(1, 2, 1, 5);
        roll.mention(1, NONE, 0, 3);
        roll.mention(4, 2, 0, 1);
        roll.mention(1, 3, 0, NONE);
        roll.mention(4, 2, 5, 7);
        roll.rank(3, 8);
        roll.rank(7, 0);
        roll.bar(3, 5, true);
        roll.bar(7, 1, true);
        roll.ahead(0, 1, 10);
        roll.ahead(1, 3, -5);
        roll.find(0, 100, 200);
        roll.find(3, 0, 230);
        roll.seal(2, 4);
        roll.seal(0, 5);
        roll.block(1, 4, true);
        roll.join(0, 1);
        roll.join(2, 0);
        roll.split(0);
        roll.join(5, 3);
        roll.kin(0, 3);
        roll.kin(4, 1);
        roll.rival(0, 15);
        roll.rival(3, 15);
        roll.rival(4, 0);
        return roll;
    }
}
