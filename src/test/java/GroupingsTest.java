/** Promises 23 to 26: best, bestAnew, rival, differ. */
public final class GroupingsTest {
    private static final int NONE = OfficeholdersRoll.NONE;

    public static void main(String[] args) {
        bestOfFew();
        bestOfSix();
        bestNotRight();
        bestParts();
        bestOfAnyMentions();
        bestWhateverThePersons();
        bestRefused();
        bestByOneWayAlone();
        rival();
        rivalRefused();
        differ();
        differAll();
        Due.end();
    }

    private static void best(String what, int due, CountedRoll roll, int mentions) {
        Due.answers("23 " + what, due, () -> roll.best(mentions));
        Due.answers("24 " + what, due, () -> roll.bestAnew(mentions));
    }

    /** 23, 24 */
    private static void bestOfFew() {
        CountedRoll roll = Rolls.alike(3);
        best("of none", 0, roll, 0);
        best("of one", 0, roll, 4);
        best("of two", 5, roll, 5);
        best("of three", 15, roll, 7);
        roll.mention(1, 1, 1, 1);
        best("apart is never below 0", 0, roll, 9);
        roll.mention(2, NONE, 2, 2);
        best("below 3 is left apart", 0, roll, 24);
        roll.mention(0, NONE, 0, 5);
        best("a weight of 3 is worth 0", 0, roll, 33);
    }

    private static void bestOfSix() {
        CountedRoll roll = Rolls.alike(6);
        best("all six alike", 75, roll, 63);
        for (int one = 0; one < 6; one++) {
            for (int other = one + 1; other < 6; other++) {
                roll.seal(one, other);
            }
        }
        best("all six, sealed", 150, roll, 63);
        for (int one = 0; one < 6; one++) {
            for (int other = one + 1; other < 6; other++) {
                roll.block(one, other, true);
            }
        }
        best("all six blocked", 0, roll, 63);
        roll.block(4, 5, false);
        best("but the last two", 10, roll, 63);
        roll.block(0, 1, false);
        best("but the first two and the last two", 20, roll, 63);
        roll.block(3, 2, false);
        best("three pairs", 30, roll, 63);
    }

    private static void bestNotRight() {
        CountedRoll roll = new CountedRoll();
        roll.mention(0, 1, 0, 0);
        roll.mention(0, 2, 0, 0);
        roll.mention(0, NONE, 0, 0);
        roll.seal(0, 1);
        best("other families, though sealed", 0, roll, 3);
        best("a family that is not known", 2, roll, 5);
        best("two that cannot be in one group", 2, roll, 7);
        roll.block(2, 1, true);
        best("blocked", 2, roll, 7);
        roll.block(0, 2, true);
        best("all blocked", 0, roll, 7);
        roll.block(0, 2, false);
        roll.bar(0, 1, true);
        roll.find(0, 5, 5);
        roll.find(2, 5, 5);
        best("posts do not matter", 2, roll, 7);
    }

    /** A pair that is worth less than nothing may be in the best group, if the others are worth more. */
    private static void bestParts() {
        CountedRoll roll = new CountedRoll();
        roll.mention(0, NONE, 0, NONE);
        roll.mention(0, NONE, 1, NONE);
        roll.mention(1, NONE, 1, NONE);
        roll.mention(1, NONE, 2, NONE);
        best("all apart", 0, roll, 15);
        roll.seal(0, 1);
        best("a pair of 4 and what costs", 4, roll, 15);
        roll.seal(1, 2);
        best("4 and 3 less 3: three together or two", 4, roll, 15);
        roll.seal(2, 3);
        best("two pairs", 8, roll, 15);
        roll.seal(0, 2);
        best("three together", 9, roll, 7);
        best("three together or two pairs", 9, roll, 15);
        roll.seal(3, 1);
        best("all four, with the two that cost 3", 12, roll, 15);
        roll.block(0, 3, true);
        best("without the two that are blocked", 9, roll, 15);
    }

    private static void bestOfAnyMentions() {
        CountedRoll roll = new CountedRoll();
        for (int k = 0; k < 16; k++) {
            roll.mention(k % 4, NONE, k % 2, k % 3);
        }
        roll.seal(15, 14);
        best("the last two", 2, roll, 3 << 14);
        best("the last and the first", 0, roll, 1 << 15 | 1);
        best("of the same name and place and post", 2, roll, 1 << 13 | 1 << 1);
        best("six from all over", 2, roll, 1 << 15 | 1 << 14 | 1 << 9 | 1 << 4 | 1 << 2 | 1);
        Due.answers("23 seven", Due.ARGUMENT, () -> roll.best(127 << 9));
        Due.answers("24 seven", Due.ARGUMENT, () -> roll.bestAnew(127 << 9));
        Due.answers("23 mention 16", Due.ARGUMENT, () -> roll.best(1 << 16));
        Due.answers("24 mention 16", Due.ARGUMENT, () -> roll.bestAnew(1 << 16));
    }

    private static void bestWhateverThePersons() {
        CountedRoll roll = Rolls.alike(3);
        roll.join(0, 1);
        best("joined or not", 15, roll, 7);
        roll.block(0, 1, true);
        best("joined, but blocked then", 5, roll, 7);
        best("joined, but blocked then", 0, roll, 3);
    }

    private static void bestRefused() {
        CountedRoll roll = Rolls.alike(7);
        for (int mentions : new int[] {127, 128, -1, Integer.MIN_VALUE, Integer.MAX_VALUE, 1 << 16, 1 << 30}) {
            Due.refuses("23 " + mentions, Due.ARGUMENT, roll, () -> roll.best(mentions));
            Due.refuses("24 " + mentions, Due.ARGUMENT, roll, () -> roll.bestAnew(mentions));
        }
        best("six of seven", 75, roll, 126);
    }

    private static void bestByOneWayAlone() {
        CountedRoll roll = Rolls.alike(6);
        Due.answers("24 six alone", 75, () -> roll.bestAnew(63));
        Due.answers("23 five alone", 50, () -> roll.best(31));
        Due.answers("24 four alone", 30, () -> roll.bestAnew(15));
        roll.block(0, 1, true);
        Due.answers("24 blocked since", 15, () -> roll.bestAnew(15));
        roll.block(0, 2, true);
        Due.answers("23 blocked since", 15, () -> roll.best(15));
        roll.block(2, 1, true);
        Due.answers("24 blocked since", 5, () -> roll.bestAnew(15));
        Due.answers("23 the same", 5, () -> roll.best(15));
    }

    /** 25 */
    private static void rival() {
        CountedRoll roll = Rolls.alike(2);
        Due.answers("25 none at first", NONE, () -> roll.rival(0, 15));
        Due.answers("25 the label before", 15, () -> roll.rival(0, 0));
        Due.answers("25 the label before", 0, () -> roll.rival(0, NONE));
        Due.answers("25 taken back", NONE, () -> roll.rival(0, NONE));
        Due.answers("25 each its own", NONE, () -> roll.rival(1, 3));
    }

    private static void rivalRefused() {
        CountedRoll roll = Rolls.alike(2);
        roll.rival(0, 4);
        Due.refuses("25 no mention 2", Due.INDEX, roll, () -> roll.rival(2, 0));
        Due.refuses("25 no mention -1", Due.INDEX, roll, () -> roll.rival(-1, 0));
        Due.refuses("25 mention ahead of label", Due.INDEX, roll, () -> roll.rival(2, 16));
        Due.refuses("25 label 16", Due.ARGUMENT, roll, () -> roll.rival(0, 16));
        Due.refuses("25 label -2", Due.ARGUMENT, roll, () -> roll.rival(0, -2));
        Due.answers("25 refused changed nothing", 4, () -> roll.rival(0, 4));
    }

    /** 26 */
    private static void differ() {
        CountedRoll roll = Rolls.alike(4);
        Due.answers("26 all apart on both", 0, roll::differ);
        roll.rival(0, 5);
        Due.answers("26 one label", 0, roll::differ);
        roll.rival(1, 5);
        Due.answers("26 together for the rival alone", 1, roll::differ);
        roll.join(1, 0);
        Due.answers("26 together for both", 0, roll::differ);
        roll.join(0, 2);
        Due.answers("26 a third one without a label", 2, roll::differ);
        roll.rival(2, 6);
        Due.answers("26 a third one of another label", 2, roll::differ);
        roll.rival(2, 5);
        Due.answers("26 a third one of the same label", 0, roll::differ);
        roll.rival(3, 5);
        Due.answers("26 a fourth one for the rival", 3, roll::differ);
        roll.split(0);
        Due.answers("26 split", 5, roll::differ);
        roll.rival(0, NONE);
        Due.answers("26 label taken back", 2, roll::differ);
        roll.rival(1, NONE);
        roll.rival(2, NONE);
        Due.answers("26 two without a label are not together", 1, roll::differ);
    }

    private static void differAll() {
        CountedRoll roll = Rolls.alike(16);
        for (int mention = 0; mention < 16; mention++) {
            roll.rival(mention, 0);
        }
        Due.answers("26 all for the rival", 120, roll::differ);
        for (int mention = 1; mention < 16; mention++) {
            roll.join(0, mention);
        }
        Due.answers("26 all for both", 0, roll::differ);
        for (int mention = 0; mention < 16; mention++) {
            roll.rival(mention, mention);
        }
        Due.answers("26 all for the roll", 120, roll::differ);
    }
}
