/** Promises 10 to 18: seal, block, weight, whyNot, join, split, person, entry, size. */
public final class PersonsTest {
    private static final int NONE = OfficeholdersRoll.NONE;

    public static void main(String[] args) {
        seal();
        block();
        weight();
        whyNotEach();
        whyNotFirst();
        whyNotOfAllMentions();
        whyNotCertain();
        join();
        joinRefused();
        joinLeads();
        laterTellingPartsNobody();
        split();
        splitTheMaker();
        splitRefused();
        numbersNeverDie();
        personEntrySizeRefused();
        Due.end();
    }

    private static void refusesPairs(String what, CountedRoll roll, java.util.function.IntBinaryOperator call) {
        int count = Look.countMentions(roll);
        int[][] none = {{0, count}, {count, 0}, {-1, 0}, {0, -1}, {count, count}, {-1, -1},
            {Integer.MAX_VALUE, 0}, {0, Integer.MIN_VALUE}};
        for (int[] pair : none) {
            Due.refuses(what + " no mention", Due.INDEX, roll, () -> call.applyAsInt(pair[0], pair[1]));
        }
        Due.refuses(what + " both the same", Due.ARGUMENT, roll, () -> call.applyAsInt(0, 0));
    }

    /** 10 */
    private static void seal() {
        CountedRoll roll = Rolls.alike(3);
        Due.answers("10 seal(0, 1)", false, () -> roll.seal(0, 1));
        Due.answers("10 seal(1, 0)", true, () -> roll.seal(1, 0));
        Due.answers("10 seal(0, 1) again", true, () -> roll.seal(0, 1));
        Due.answers("10 seal(2, 0)", false, () -> roll.seal(2, 0));
        Due.answers("10 its weight counts once", 13, () -> roll.weight(1, 0));
        Due.answers("10 it is of the two alone", 8, () -> roll.weight(1, 2));
        refusesPairs("10", roll, (one, other) -> roll.seal(one, other) ? 1 : 0);
    }

    /** 11 */
    private static void block() {
        CountedRoll roll = Rolls.alike(3);
        Due.answers("11 not at first", false, () -> roll.block(0, 1, false));
        Due.answers("11 block(0, 1)", false, () -> roll.block(0, 1, true));
        Due.answers("11 block(1, 0) again", true, () -> roll.block(1, 0, true));
        Due.answers("11 others are not", false, () -> roll.block(0, 2, false));
        Due.answers("11 others are not", false, () -> roll.block(1, 2, false));
        Due.answers("11 blocked", 2, () -> roll.whyNot(0, 1));
        Due.answers("11 unblocked", true, () -> roll.block(1, 0, false));
        Due.answers("11 unblocked already", false, () -> roll.block(0, 1, false));
        Due.answers("11 can be joined", 0, () -> roll.whyNot(0, 1));
        refusesPairs("11", roll, (one, other) -> roll.block(one, other, true) ? 1 : 0);
        refusesPairs("11", roll, (one, other) -> roll.block(one, other, false) ? 1 : 0);
    }

    /** 12 */
    private static void weight() {
        CountedRoll roll = new CountedRoll();
        roll.mention(1, 2, 3, 4);
        roll.mention(1, 5, 0, 0);
        roll.mention(0, 2, 0, 1);
        roll.mention(0, 5, 3, 2);
        roll.mention(0, 6, 1, 4);
        roll.mention(2, NONE, 4, NONE);
        roll.mention(3, NONE, 5, NONE);
        roll.mention(2, 7, 4, 0);
        Due.answers("12 name", 2, () -> roll.weight(0, 1));
        Due.answers("12 family", 3, () -> roll.weight(0, 2));
        Due.answers("12 place", 1, () -> roll.weight(0, 3));
        Due.answers("12 post", 2, () -> roll.weight(0, 4));
        Due.answers("12 nothing known is not the same", 0, () -> roll.weight(5, 6));
        Due.answers("12 name and place", 3, () -> roll.weight(7, 5));
        Due.answers("12 nothing", 0, () -> roll.weight(0, 5));
        roll.seal(4, 0);
        Due.answers("12 seal", 7, () -> roll.weight(0, 4));
        Due.answers("12 the other way round", 7, () -> roll.weight(4, 0));
        roll.mention(1, 2, 3, 4);
        Due.answers("12 all but the seal", 8, () -> roll.weight(8, 0));
        roll.seal(0, 8);
        Due.answers("12 all", 13, () -> roll.weight(8, 0));
        roll.block(0, 8, true);
        Due.answers("12 a block weighs nothing", 13, () -> roll.weight(0, 8));
        CountedRoll two = Rolls.alike(2);
        refusesPairs("12", two, two::weight);
    }

    /** 13 */
    private static void whyNotEach() {
        CountedRoll roll = new CountedRoll();
        roll.mention(0, 0, 0, 0);
        roll.mention(0, 0, 1, 1);
        roll.mention(0, NONE, 0, NONE);
        roll.mention(0, 1, 0, 0);
        roll.mention(0, NONE, 1, 0);
        Due.answers("13 weight 5", 0, () -> roll.whyNot(0, 1));
        Due.answers("13 weight 4", 0, () -> roll.whyNot(0, 4));
        Due.answers("13 weight 3", 5, () -> roll.whyNot(0, 2));
        Due.answers("13 other families", 3, () -> roll.whyNot(0, 3));
        Due.answers("13 one family known, weight 5", 0, () -> roll.whyNot(3, 4));
        roll.block(0, 1, true);
        Due.answers("13 blocked", 2, () -> roll.whyNot(1, 0));
        roll.block(0, 1, false);
        roll.join(0, 1);
        Due.answers("13 one person", 1, () -> roll.whyNot(1, 0));
        refusesPairs("13", roll, roll::whyNot);
    }

    /** All that is against two is told at first, and taken back one by one. */
    private static void whyNotFirst() {
        CountedRoll roll = new CountedRoll();
        roll.mention(0, 0, 0, 1);
        roll.mention(1, 1, 1, 2);
        roll.bar(1, 2, true);
        roll.find(0, 5, 5);
        roll.find(1, 5, 5);
        roll.block(0, 1, true);
        Due.answers("13 blocked ahead of families", 2, () -> roll.whyNot(0, 1));
        roll.block(0, 1, false);
        Due.answers("13 families ahead of posts", 3, () -> roll.whyNot(0, 1));
        roll.mention(2, NONE, 2, 2);
        roll.find(2, 5, 5);
        Due.answers("13 posts ahead of weight", 4, () -> roll.whyNot(0, 2));
        roll.block(2, 0, true);
        Due.answers("13 blocked ahead of posts", 2, () -> roll.whyNot(0, 2));
        roll.block(2, 0, false);
        roll.bar(2, 1, false);
        Due.answers("13 weight", 5, () -> roll.whyNot(0, 2));
        roll.seal(0, 2);
        Due.answers("13 nothing", 0, () -> roll.whyNot(0, 2));
        roll.join(0, 2);
        roll.block(0, 2, true);
        Due.answers("13 one person ahead of blocked", 1, () -> roll.whyNot(0, 2));
    }

    /** 0 and 1 are one person, 2 and 3 another one; what is against it stands between 1 and 3. */
    private static void whyNotOfAllMentions() {
        CountedRoll roll = new CountedRoll();
        roll.mention(0, NONE, 0, 0);
        roll.mention(0, 4, 0, 5);
        roll.mention(0, NONE, 0, 0);
        roll.mention(0, 5, 0, 6);
        roll.seal(0, 1);
        roll.seal(2, 3);
        roll.join(0, 1);
        roll.join(2, 3);
        roll.block(1, 3, true);
        Due.answers("13 the first reason of any two", 2, () -> roll.whyNot(2, 0));
        roll.block(3, 1, false);
        Due.answers("13 families of others", 3, () -> roll.whyNot(2, 0));
        roll.split(3);
        Due.answers("13 gone with the mention", 0, () -> roll.whyNot(2, 0));
        roll.mention(0, 4, 0, 6);
        roll.seal(2, 4);
        roll.join(2, 4);
        roll.bar(5, 6, true);
        roll.find(1, 77, 77);
        roll.find(4, 77, 77);
        Due.answers("13 posts of others", 4, () -> roll.whyNot(0, 2));
        Due.answers("13 the other way round", 4, () -> roll.whyNot(2, 0));
        roll.block(0, 4, true);
        Due.answers("13 another pair, an earlier reason", 2, () -> roll.whyNot(1, 2));
        roll.block(0, 4, false);
        roll.bar(5, 6, false);
        Due.answers("13 the weight is of the two alone", 0, () -> roll.whyNot(0, 2));
        Due.answers("13 the weight of other two", 0, () -> roll.whyNot(1, 4));
        Due.answers("13 too light, though of the same persons", 5, () -> roll.whyNot(1, 2));
    }

    private static void whyNotCertain() {
        CountedRoll roll = new CountedRoll();
        roll.mention(0, 0, 0, 1);
        roll.mention(0, 0, 0, 2);
        roll.mention(0, 0, 0, NONE);
        roll.mention(0, 0, 0, 1);
        roll.bar(1, 2, true);
        Due.answers("13 neither certain", 0, () -> roll.whyNot(0, 1));
        roll.find(0, 30, 30);
        Due.answers("13 one certain", 0, () -> roll.whyNot(0, 1));
        roll.find(1, 30, 31);
        Due.answers("13 the other one by a year not", 0, () -> roll.whyNot(1, 0));
        roll.ahead(1, 0, 0);
        Due.answers("13 certain by what is ahead", 4, () -> roll.whyNot(0, 1));
        roll.find(2, 30, 30);
        Due.answers("13 no post is not barred", 0, () -> roll.whyNot(1, 2));
        roll.find(3, 30, 30);
        Due.answers("13 the same post is not barred", 0, () -> roll.whyNot(0, 3));
        Due.answers("13 barred with the other one", 4, () -> roll.whyNot(3, 1));
        CountedRoll apart = new CountedRoll();
        apart.mention(0, 0, 0, 1);
        apart.mention(0, 0, 0, 2);
        apart.bar(1, 2, true);
        apart.find(0, 30, 30);
        apart.find(1, 31, 31);
        Due.answers("13 both certain, of unlike years", 0, () -> apart.whyNot(0, 1));
    }

    /** 14 */
    private static void join() {
        CountedRoll roll = Rolls.alike(5);
        Due.answers("14 the lesser number", 1, () -> roll.join(3, 1));
        Due.answers("14 person(3)", 1, () -> roll.person(3));
        Due.answers("14 entry(3)", 1, () -> roll.entry(3));
        Due.answers("14 size(3)", 2, () -> roll.size(3));
        Due.answers("14 by another mention", 1, () -> roll.join(3, 4));
        Due.answers("14 all of them", 0, () -> roll.join(0, 4));
        for (int mention = 0; mention < 5; mention++) {
            int m = mention;
            Due.answers("14 person", m == 2 ? 2 : 0, () -> roll.person(m));
            Due.answers("14 entry", m == 2 ? 2 : 0, () -> roll.entry(m));
            Due.answers("14 size", m == 2 ? 1 : 4, () -> roll.size(m));
        }
    }

    private static void joinRefused() {
        CountedRoll roll = new CountedRoll();
        roll.mention(0, 0, 0, 0);
        roll.mention(0, 1, 0, 0);
        roll.mention(0, NONE, 5, NONE);
        roll.mention(0, 0, 0, 0);
        roll.join(0, 3);
        Due.refuses("14 one person", Due.STATE, roll, () -> roll.join(3, 0));
        Due.refuses("14 families", Due.STATE, roll, () -> roll.join(1, 3));
        Due.refuses("14 weight", Due.STATE, roll, () -> roll.join(2, 3));
        roll.seal(2, 0);
        roll.block(2, 3, true);
        Due.refuses("14 blocked", Due.STATE, roll, () -> roll.join(2, 0));
        refusesPairs("14", roll, roll::join);
        roll.block(3, 2, false);
        Due.answers("14 then", 0, () -> roll.join(2, 0));
    }

    private static void joinLeads() {
        CountedRoll roll = Rolls.alike(6);
        roll.join(4, 5);
        roll.join(2, 3);
        roll.join(5, 3);
        Due.answers("14 what led to it leads on", 2, () -> roll.entry(5));
        roll.join(0, 4);
        for (int person = 2; person < 6; person++) {
            int p = person;
            Due.answers("14 what led to it leads on", 0, () -> roll.entry(p));
            Due.answers("14 told of that to which it leads", 5, () -> roll.size(p));
        }
        Due.answers("14 others lead to themselves", 1, () -> roll.entry(1));
    }

    private static void laterTellingPartsNobody() {
        CountedRoll roll = Rolls.alike(2);
        roll.mention(0, NONE, 0, 3);
        roll.seal(1, 2);
        roll.join(0, 1);
        roll.join(1, 2);
        roll.block(0, 1, true);
        roll.bar(0, 3, true);
        roll.find(0, 9, 9);
        roll.find(2, 9, 9);
        Due.answers("11 they stay", 3, () -> roll.size(0));
        Due.answers("11 person", 0, () -> roll.person(1));
        Due.answers("13 one person", 1, () -> roll.whyNot(0, 2));
        roll.split(1);
        Due.answers("13 blocked once split", 2, () -> roll.whyNot(1, 2));
    }

    /** 15 */
    private static void split() {
        CountedRoll roll = Rolls.alike(4);
        roll.join(0, 1);
        roll.join(0, 2);
        Due.answers("15 a new person", 4, () -> roll.split(1));
        Due.answers("15 person", 4, () -> roll.person(1));
        Due.answers("15 others stay", 0, () -> roll.person(2));
        Due.answers("15 it leads to itself", 4, () -> roll.entry(4));
        Due.answers("15 its old number leads on", 0, () -> roll.entry(1));
        Due.answers("15 size of the new one", 1, () -> roll.size(4));
        Due.answers("15 size of the old one", 2, () -> roll.size(1));
        Due.answers("15 alone", Due.STATE, () -> roll.split(1));
        Due.answers("14 joined anew", 3, () -> roll.join(1, 3));
        Due.answers("17 the new number leads there", 3, () -> roll.entry(4));
        Due.answers("17 the old number does not", 0, () -> roll.entry(1));
    }

    private static void splitTheMaker() {
        CountedRoll roll = Rolls.alike(3);
        roll.join(0, 1);
        roll.join(0, 2);
        Due.answers("15 the one that made the number", 3, () -> roll.split(0));
        Due.answers("15 the others stay", 0, () -> roll.person(1));
        Due.answers("15 the others stay", 0, () -> roll.person(2));
        Due.answers("17 the number stays", 0, () -> roll.entry(0));
        Due.answers("18 its size", 2, () -> roll.size(0));
        Due.answers("14 it comes back", 0, () -> roll.join(0, 2));
        Due.answers("17 the new number leads back", 0, () -> roll.entry(3));
        Due.answers("18 all", 3, () -> roll.size(3));
    }

    private static void splitRefused() {
        CountedRoll roll = Rolls.alike(3);
        roll.join(0, 1);
        Due.refuses("15 no mention 3", Due.INDEX, roll, () -> roll.split(3));
        Due.refuses("15 no mention -1", Due.INDEX, roll, () -> roll.split(-1));
        Due.refuses("15 alone", Due.STATE, roll, () -> roll.split(2));
        Due.answers("15 the next number", 3, () -> roll.split(0));
        Due.refuses("15 alone then", Due.STATE, roll, () -> roll.split(1));
    }

    private static void numbersNeverDie() {
        CountedRoll roll = Rolls.alike(2);
        for (int turn = 0; turn < 38; turn++) {
            int number = turn + 2;
            roll.join(turn % 2, 1 - turn % 2);
            Due.answers("15 split", number, () -> roll.split(0));
        }
        for (int person = 0; person < 40; person++) {
            int p = person;
            Due.answers("17 entry", p == 39 ? 39 : 0, () -> roll.entry(p));
            Due.answers("18 size", 1, () -> roll.size(p));
        }
        Due.answers("15 alone at 40 persons", Due.STATE, () -> roll.split(0));
        Due.answers("15 no mention at 40 persons", Due.INDEX, () -> roll.split(2));
    }

    /** 16, 17, 18 */
    private static void personEntrySizeRefused() {
        CountedRoll roll = Rolls.alike(2);
        roll.join(0, 1);
        roll.split(0);
        for (int number : new int[] {-1, 3, 40, Integer.MIN_VALUE, Integer.MAX_VALUE}) {
            Due.refuses("16 person " + number, Due.INDEX, roll, () -> roll.person(number));
            Due.refuses("17 entry " + number, Due.INDEX, roll, () -> roll.entry(number));
            Due.refuses("18 size " + number, Due.INDEX, roll, () -> roll.size(number));
        }
        Due.refuses("16 person 2 is no mention", Due.INDEX, roll, () -> roll.person(2));
        Due.answers("17 entry 2", 2, () -> roll.entry(2));
        Due.answers("18 size 2", 1, () -> roll.size(2));
    }
}
