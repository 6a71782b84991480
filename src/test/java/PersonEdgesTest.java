/** The edges of "Reasons, persons" and of promises 10 to 18, sentence by sentence. */
public final class PersonEdgesTest {
    private static final int NONE = OfficeholdersRoll.NONE;

    public static void main(String[] args) {
        weightOfEach();
        weightLeastAndGreatest();
        weightOfNothingKnown();
        sealOfTwo();
        blockOfTwo();
        below4();
        belowFourRefusesJoin();
        onePersonFirst();
        blockedBeforeTheRest();
        familiesBeforeTheRest();
        barredBeforeWeight();
        nothingAgainstAtEachNumber();
        someMentionOfEachPerson();
        barredOneByOne();
        joinToTheLesserNumber();
        joinWhatLedToIt();
        joinedFromTheSplit();
        splitOff();
        splitTheOneThatMadeTheNumber();
        splitNoOther();
        behindAJoinPartsNobody();
        leadsToItself();
        askedByANumberThatLeads();
        numbersOfBothKinds();
        Due.end();
    }

    private static CountedRoll two(int name, int family, int place, int post) {
        CountedRoll roll = new CountedRoll();
        roll.mention(0, 0, 0, 0);
        roll.mention(name, family, place, post);
        return roll;
    }

    /** "2 for the same name, 3 for the same FAMILY, known of both, 1 for the same place, 2 for the same POST ..." */
    private static void weightOfEach() {
        int[][] worth = {{0, 2}, {0, 3}, {0, 1}, {0, 2}};
        for (int set = 0; set < 16; set++) {
            int[] same = new int[4];
            int due = 0;
            for (int k = 0; k < 4; k++) {
                same[k] = set >> k & 1;
                due += worth[k][same[k]];
            }
            CountedRoll roll = two(1 - same[0], 1 - same[1], 1 - same[2], 1 - same[3]);
            int bare = due;
            Due.answers("12 the same by bits " + set, bare, () -> roll.weight(0, 1));
            Due.answers("12 the other way round", bare, () -> roll.weight(1, 0));
            roll.seal(1, 0);
            Due.answers("12 and sealed", bare + 5, () -> roll.weight(0, 1));
        }
    }

    private static void weightLeastAndGreatest() {
        CountedRoll roll = new CountedRoll();
        roll.mention(9, 9, 5, 7);
        roll.mention(9, 9, 5, 7);
        roll.mention(0, 0, 0, 0);
        Due.answers("12 all the same but the seal", 8, () -> roll.weight(0, 1));
        roll.seal(0, 1);
        Due.answers("12 the greatest", 13, () -> roll.weight(1, 0));
        Due.answers("12 the least", 0, () -> roll.weight(0, 2));
        roll.seal(0, 1);
        Due.answers("12 a seal told twice", 13, () -> roll.weight(0, 1));
    }

    /** "known of both", "both having one" */
    private static void weightOfNothingKnown() {
        CountedRoll roll = new CountedRoll();
        roll.mention(0, NONE, 0, NONE);
        roll.mention(1, NONE, 1, NONE);
        roll.mention(2, 0, 2, 0);
        roll.mention(3, 9, 3, 7);
        roll.mention(4, 0, 4, 0);
        Due.answers("12 neither known", 0, () -> roll.weight(0, 1));
        Due.answers("12 one known, 0", 0, () -> roll.weight(0, 2));
        Due.answers("12 one known, the greatest", 0, () -> roll.weight(3, 1));
        Due.answers("12 family 0 and post 0 are known", 5, () -> roll.weight(4, 2));
        Due.answers("13 too light, not of other families", 5, () -> roll.whyNot(0, 2));
        Due.answers("13 of other families", 3, () -> roll.whyNot(3, 2));
    }

    /** "if a seal was told of both"; "Returns whether it was told already." */
    private static void sealOfTwo() {
        CountedRoll roll = Rolls.alike(4);
        Due.answers("10 not told", false, () -> roll.seal(3, 0));
        Due.answers("10 told", true, () -> roll.seal(3, 0));
        Due.answers("10 told the other way round", true, () -> roll.seal(0, 3));
        Due.answers("12 of the two", 13, () -> roll.weight(0, 3));
        Due.answers("10 not of others", false, () -> roll.seal(2, 1));
        Due.answers("12 each sealed, but not together", 8, () -> roll.weight(0, 1));
        Due.answers("12 each sealed, but not together", 8, () -> roll.weight(2, 3));
        Due.answers("10 not of one and another one's", false, () -> roll.seal(0, 2));
    }

    /** "Tells whether two MENTIONS are BLOCKED", "Returns whether they were." */
    private static void blockOfTwo() {
        CountedRoll roll = Rolls.alike(3);
        Due.answers("11 unblocked at first", false, () -> roll.block(0, 2, false));
        Due.answers("11 still unblocked", false, () -> roll.block(2, 0, true));
        Due.answers("11 blocked", true, () -> roll.block(0, 2, true));
        Due.answers("11 still blocked", true, () -> roll.block(2, 0, false));
        Due.answers("11 unblocked, though told twice", false, () -> roll.block(0, 2, false));
        roll.block(1, 2, true);
        Due.answers("13 the two alone", 2, () -> roll.whyNot(2, 1));
        Due.answers("13 not others", 0, () -> roll.whyNot(0, 1));
        Due.answers("13 not others", 0, () -> roll.whyNot(0, 2));
    }

    /** "5, the weight of the two that are to be joined is below 4" */
    private static void below4() {
        Due.answers("13 weight 0", 5, () -> two(1, NONE, 1, NONE).whyNot(0, 1));
        Due.answers("13 weight 1, place", 5, () -> two(1, NONE, 0, 1).whyNot(0, 1));
        Due.answers("13 weight 2, name", 5, () -> two(0, NONE, 1, 1).whyNot(0, 1));
        Due.answers("13 weight 2, post", 5, () -> two(1, NONE, 1, 0).whyNot(1, 0));
        Due.answers("13 weight 3, family", 5, () -> two(1, 0, 1, 1).whyNot(0, 1));
        Due.answers("13 weight 3, name and place", 5, () -> two(0, NONE, 0, 1).whyNot(0, 1));
        Due.answers("13 weight 3, post and place", 5, () -> two(1, NONE, 0, 0).whyNot(1, 0));
        Due.answers("13 weight 4, family and place", 0, () -> two(1, 0, 0, 1).whyNot(0, 1));
        Due.answers("13 weight 4, name and post", 0, () -> two(0, NONE, 1, 0).whyNot(1, 0));
        Due.answers("13 weight 5, name and family", 0, () -> two(0, 0, 1, 1).whyNot(0, 1));
        CountedRoll sealed = two(1, NONE, 1, NONE);
        sealed.seal(0, 1);
        Due.answers("13 weight 5, a seal", 0, () -> sealed.whyNot(0, 1));
    }

    /** "if they cannot be joined" */
    private static void belowFourRefusesJoin() {
        CountedRoll light = two(0, NONE, 0, 1);
        Due.refuses("14 weight 3", Due.STATE, light, r -> r.join(0, 1));
        Due.refuses("14 weight 3, the other way round", Due.STATE, light, r -> r.join(1, 0));
        light.seal(0, 1);
        Due.answers("14 sealed then", 0, () -> light.join(1, 0));
        CountedRoll just = two(0, NONE, 1, 0);
        Due.answers("14 weight 4", 0, () -> just.join(0, 1));
    }

    /** "by the first of these that is so: 1, they belong to one PERSON" */
    private static void onePersonFirst() {
        CountedRoll roll = new CountedRoll();
        roll.mention(0, NONE, 0, 0);
        roll.mention(0, 1, 0, 1);
        roll.mention(5, 1, 5, 1);
        roll.seal(0, 1);
        roll.join(0, 1);
        roll.join(1, 2);
        Due.answers("13 one person, too light", 1, () -> roll.whyNot(0, 2));
        roll.bar(0, 1, true);
        roll.find(0, 5, 5);
        roll.find(2, 5, 5);
        Due.answers("13 one person, barred", 1, () -> roll.whyNot(2, 0));
        roll.block(0, 2, true);
        Due.answers("13 one person, blocked", 1, () -> roll.whyNot(0, 2));
        Due.answers("13 one person, two others blocked", 1, () -> roll.whyNot(0, 1));
        Due.refuses("14 one person", Due.STATE, roll, r -> r.join(2, 1));
        roll.split(2);
        Due.answers("13 no longer one person", 2, () -> roll.whyNot(0, 2));
    }

    private static CountedRoll twoBarred(int family) {
        CountedRoll roll = new CountedRoll();
        roll.mention(0, 0, 0, 0);
        roll.mention(1, family, 1, 1);
        roll.bar(1, 0, true);
        roll.find(0, 5, 5);
        roll.find(1, 5, 5);
        return roll;
    }

    private static void blockedBeforeTheRest() {
        CountedRoll families = two(0, 1, 0, 0);
        families.block(1, 0, true);
        Due.answers("13 blocked, of other families", 2, () -> families.whyNot(0, 1));
        Due.refuses("14 blocked, of other families", Due.STATE, families, r -> r.join(0, 1));
        CountedRoll barred = twoBarred(0);
        barred.block(0, 1, true);
        Due.answers("13 blocked, barred", 2, () -> barred.whyNot(0, 1));
        CountedRoll light = two(1, NONE, 1, NONE);
        light.block(0, 1, true);
        Due.answers("13 blocked, too light", 2, () -> light.whyNot(0, 1));
        CountedRoll all = twoBarred(1);
        all.block(0, 1, true);
        Due.answers("13 blocked, and all that follows", 2, () -> all.whyNot(1, 0));
    }

    private static void familiesBeforeTheRest() {
        CountedRoll barred = twoBarred(9);
        barred.seal(0, 1);
        Due.answers("13 of other families, barred", 3, () -> barred.whyNot(0, 1));
        Due.refuses("14 of other families, barred", Due.STATE, barred, r -> r.join(1, 0));
        Due.answers("13 of other families, too light", 3, () -> two(1, 1, 1, 1).whyNot(0, 1));
        Due.answers("13 of other families, heavy enough", 3, () -> two(0, 1, 0, 0).whyNot(0, 1));
        Due.answers("13 of other families, barred, too light", 3, () -> twoBarred(1).whyNot(0, 1));
    }

    private static void barredBeforeWeight() {
        CountedRoll roll = twoBarred(NONE);
        Due.answers("13 barred, too light", 4, () -> roll.whyNot(0, 1));
        Due.refuses("14 barred, too light", Due.STATE, roll, r -> r.join(0, 1));
        roll.seal(0, 1);
        Due.answers("13 barred, heavy enough", 4, () -> roll.whyNot(1, 0));
        Due.refuses("14 barred, heavy enough", Due.STATE, roll, r -> r.join(0, 1));
        roll.bar(0, 1, false);
        Due.answers("13 no longer barred", 0, () -> roll.whyNot(1, 0));
        Due.answers("14 no longer barred", 0, () -> roll.join(1, 0));
    }

    /** Mentions that nobody told have no part in it: neither in a roll that is full but for some, nor in a full one. */
    private static void nothingAgainstAtEachNumber() {
        for (int count : new int[] {2, 15, 16}) {
            CountedRoll roll = new CountedRoll();
            for (int k = 0; k < count; k++) {
                roll.mention(9, k % 2 == 0 ? 9 : NONE, 5, 7);
            }
            for (int k = 1; k < count; k++) {
                int mention = k;
                Due.answers("13 of " + count + ", the first and " + k, 0, () -> roll.whyNot(0, mention));
                Due.answers("13 of " + count + ", " + k + " and the first", 0, () -> roll.whyNot(mention, 0));
            }
            Due.answers("14 the last and the first", 0, () -> roll.join(count - 1, 0));
        }
    }

    /** Two persons of two mentions each: 0 and 1, 2 and 3. */
    private static CountedRoll twoPersons(int family, int otherFamily) {
        CountedRoll roll = new CountedRoll();
        roll.mention(0, NONE, 0, 0);
        roll.mention(0, family, 0, 1);
        roll.mention(0, NONE, 0, 0);
        roll.mention(0, otherFamily, 0, 2);
        roll.seal(0, 1);
        roll.seal(2, 3);
        roll.join(0, 1);
        roll.join(2, 3);
        return roll;
    }

    /** "some MENTION of the PERSON of the one and some of that of the other one" */
    private static void someMentionOfEachPerson() {
        CountedRoll roll = twoPersons(NONE, 4);
        Due.answers("13 nothing is against it", 0, () -> roll.whyNot(0, 2));
        roll.block(1, 3, true);
        Due.answers("13 others of both blocked", 2, () -> roll.whyNot(0, 2));
        Due.refuses("14 others of both blocked", Due.STATE, roll, r -> r.join(2, 0));
        roll.block(1, 3, false);
        roll.block(0, 1, true);
        roll.block(2, 3, true);
        Due.answers("13 blocked within one person is not against it", 0, () -> roll.whyNot(0, 2));
        CountedRoll families = twoPersons(4, 5);
        Due.answers("13 others of both of other families", 3, () -> families.whyNot(2, 0));
        Due.refuses("14 others of both of other families", Due.STATE, families, r -> r.join(0, 2));
        CountedRoll barred = twoPersons(NONE, NONE);
        barred.bar(1, 2, true);
        barred.find(1, 8, 8);
        barred.find(3, 8, 8);
        Due.answers("13 others of both barred", 4, () -> barred.whyNot(0, 2));
        Due.refuses("14 others of both barred", Due.STATE, barred, r -> r.join(0, 2));
        Due.answers("13 the weight is of the two alone", 5, () -> twoPersons(NONE, NONE).whyNot(1, 2));
        Due.answers("13 the weight is of the two alone", 0, () -> twoPersons(NONE, NONE).whyNot(0, 2));
    }

    /** "4, some such two have POSTS that are BARRED, and both are CERTAIN, of the same year" */
    private static void barredOneByOne() {
        CountedRoll roll = new CountedRoll();
        roll.mention(0, 0, 0, 0);
        roll.mention(0, 0, 0, 7);
        roll.mention(0, 0, 0, NONE);
        roll.mention(0, 0, 0, 0);
        for (int mention = 0; mention < 4; mention++) {
            roll.find(mention, 999, 999);
        }
        for (int post = 1; post < 7; post++) {
            roll.bar(post, 0, true);
            roll.bar(7, post, true);
        }
        Due.answers("13 of the same year, not barred", 0, () -> roll.whyNot(0, 1));
        roll.bar(7, 0, true);
        Due.answers("13 of the same year, barred", 4, () -> roll.whyNot(0, 1));
        Due.answers("13 no post", 0, () -> roll.whyNot(0, 2));
        Due.answers("13 no post, the greatest post barred", 0, () -> roll.whyNot(1, 2));
        Due.answers("13 the same post", 0, () -> roll.whyNot(0, 3));
        for (int year : new int[] {0, 998}) {
            CountedRoll apart = new CountedRoll();
            apart.mention(0, 0, 0, 0);
            apart.mention(0, 0, 0, 7);
            apart.bar(0, 7, true);
            apart.find(0, year, year);
            Due.answers("13 one is certain", 0, () -> apart.whyNot(0, 1));
            apart.find(1, year, year + 1);
            Due.answers("13 one is certain, the other may be of that year", 0, () -> apart.whyNot(1, 0));
            apart.find(1, year + 1, year + 1);
            Due.answers("13 certain, one year apart", 0, () -> apart.whyNot(0, 1));
        }
        CountedRoll uncertain = new CountedRoll();
        uncertain.mention(0, 0, 0, 0);
        uncertain.mention(0, 0, 0, 7);
        uncertain.bar(0, 7, true);
        uncertain.find(0, 10, 11);
        uncertain.find(1, 10, 11);
        Due.answers("13 of the same two years", 0, () -> uncertain.whyNot(0, 1));
    }

    /** "all MENTIONS of the PERSON with the greater number belong to the other one" */
    private static void joinToTheLesserNumber() {
        CountedRoll roll = Rolls.alike(4);
        Due.answers("14 the lesser named first", 2, () -> roll.join(2, 3));
        Due.answers("14 the greater named first", 0, () -> roll.join(1, 0));
        Due.answers("14 by the greater mentions", 0, () -> roll.join(3, 1));
        for (int mention = 0; mention < 4; mention++) {
            int m = mention;
            Due.answers("16 all of them", 0, () -> roll.person(m));
        }
        Due.answers("18 all of them", 4, () -> roll.size(0));
        CountedRoll all = Rolls.alike(16);
        for (int m = 15; m > 0; m--) {
            int mention = m;
            Due.answers("14 one more", mention - 1, () -> all.join(15, mention - 1));
        }
        Due.answers("18 all 16", 16, () -> all.size(15));
        Due.answers("17 all 16", 0, () -> all.entry(15));
    }

    /** "the greater number leads to that one from then on, and so does what led to it" */
    private static void joinWhatLedToIt() {
        CountedRoll roll = Rolls.alike(5);
        roll.join(3, 4);
        Due.answers("17 leads", 3, () -> roll.entry(4));
        roll.join(2, 3);
        Due.answers("17 leads on", 2, () -> roll.entry(4));
        Due.answers("17 leads", 2, () -> roll.entry(3));
        roll.join(1, 4);
        roll.join(0, 2);
        for (int person = 0; person < 5; person++) {
            int p = person;
            Due.answers("17 all lead on", 0, () -> roll.entry(p));
            Due.answers("18 all are told", 5, () -> roll.size(p));
        }
    }

    /** The number of a person is not that of the mention that made it, once there was a split. */
    private static void joinedFromTheSplit() {
        CountedRoll roll = Rolls.alike(3);
        roll.join(0, 1);
        roll.split(0);
        Due.answers("14 person 3 and person 2", 2, () -> roll.join(0, 2));
        Due.answers("17 person 3 leads", 2, () -> roll.entry(3));
        Due.answers("17 person 0 does not", 0, () -> roll.entry(0));
        Due.answers("14 person 0 and person 2", 0, () -> roll.join(1, 0));
        Due.answers("17 person 3 leads on", 0, () -> roll.entry(3));
        Due.answers("17 person 2 leads", 0, () -> roll.entry(2));
    }

    /** "When a MENTION is split off, it belongs to a new PERSON, all others stay" */
    private static void splitOff() {
        CountedRoll roll = Rolls.alike(4);
        roll.join(0, 1);
        roll.join(0, 2);
        roll.join(0, 3);
        Due.answers("15 the last one", 4, () -> roll.split(3));
        Due.answers("15 the next one", 5, () -> roll.split(1));
        Due.answers("16 the new person", 4, () -> roll.person(3));
        Due.answers("16 the next new person", 5, () -> roll.person(1));
        Due.answers("16 others stay", 0, () -> roll.person(0));
        Due.answers("16 others stay", 0, () -> roll.person(2));
        Due.answers("17 the old number leads where it led", 0, () -> roll.entry(3));
        Due.answers("18 the new person", 1, () -> roll.size(4));
        Due.answers("18 the old number", 2, () -> roll.size(3));
        Due.answers("13 the two are no longer one person", 0, () -> roll.whyNot(1, 3));
        Due.answers("14 the two that were split off", 4, () -> roll.join(1, 3));
        Due.answers("18 the two that were split off", 2, () -> roll.size(5));
    }

    /** "also if it is the one that made that number" */
    private static void splitTheOneThatMadeTheNumber() {
        CountedRoll roll = Rolls.alike(2);
        roll.join(0, 1);
        Due.answers("15 the one that made it", 2, () -> roll.split(0));
        Due.answers("16 it is another person", 2, () -> roll.person(0));
        Due.answers("16 the other one stays", 0, () -> roll.person(1));
        Due.answers("17 the number stays", 0, () -> roll.entry(0));
        Due.answers("17 the other number leads where it led", 0, () -> roll.entry(1));
        Due.answers("18 of the other one", 1, () -> roll.size(0));
        Due.answers("19 its career", 1, () -> roll.careerAt(0, 0));
        Due.answers("19 its career alone", NONE, () -> roll.careerAt(0, 1));
        Due.answers("14 it comes back to its number", 0, () -> roll.join(0, 1));
    }

    /** "if no other MENTION belongs to its PERSON" */
    private static void splitNoOther() {
        CountedRoll roll = Rolls.alike(3);
        Due.refuses("15 never joined", Due.STATE, roll, r -> r.split(2));
        roll.join(0, 1);
        roll.split(1);
        Due.refuses("15 split off", Due.STATE, roll, r -> r.split(1));
        Due.refuses("15 left alone, though numbers lead to it", Due.STATE, roll, r -> r.split(0));
        roll.join(2, 1);
        Due.answers("15 joined anew", 4, () -> roll.split(1));
        Due.refuses("15 left alone anew", Due.STATE, roll, r -> r.split(2));
    }

    /** "What is told behind a join parts nobody"; "if they belong to one PERSON, they stay so" */
    private static void behindAJoinPartsNobody() {
        CountedRoll roll = new CountedRoll();
        roll.mention(0, 0, 0, 0);
        roll.mention(0, 0, 0, 1);
        roll.join(0, 1);
        Due.answers("11 told of one person", false, () -> roll.block(0, 1, true));
        Due.answers("16 they stay", 0, () -> roll.person(1));
        Due.answers("18 they stay", 2, () -> roll.size(0));
        Due.answers("11 they are blocked", true, () -> roll.block(1, 0, false));
        roll.find(0, 4, 4);
        roll.find(1, 4, 4);
        roll.bar(0, 1, true);
        Due.answers("18 barred, they stay", 2, () -> roll.size(1));
        Due.answers("13 they are one person", 1, () -> roll.whyNot(0, 1));
        roll.block(0, 1, true);
        roll.rival(0, 1);
        roll.rival(1, 2);
        roll.kin(0, 1);
        Due.answers("17 they stay, whatever is told", 0, () -> roll.entry(1));
        roll.split(1);
        Due.answers("13 blocked first", 2, () -> roll.whyNot(0, 1));
        roll.block(0, 1, false);
        Due.answers("13 then barred", 4, () -> roll.whyNot(0, 1));
        roll.bar(0, 1, false);
        Due.answers("14 then joined", 0, () -> roll.join(0, 1));
    }

    /** "A number of a PERSON that does not lead to another one leads to itself." */
    private static void leadsToItself() {
        CountedRoll roll = Rolls.alike(16);
        for (int person = 0; person < 16; person++) {
            int p = person;
            Due.answers("17 to itself", p, () -> roll.entry(p));
        }
        roll.join(14, 15);
        Due.answers("17 the lesser to itself", 14, () -> roll.entry(14));
        Due.answers("15 a new one", 16, () -> roll.split(15));
        Due.answers("17 a new one to itself", 16, () -> roll.entry(16));
        Due.answers("17 the number that led leads", 14, () -> roll.entry(15));
    }

    /** "All that is asked of a PERSON is told of that to which its number leads." */
    private static void askedByANumberThatLeads() {
        CountedRoll roll = Rolls.alike(5);
        roll.rank(0, 1);
        roll.join(2, 3);
        roll.join(1, 2);
        roll.kin(3, 4);
        for (int person = 1; person < 4; person++) {
            int p = person;
            Due.answers("17 entry", 1, () -> roll.entry(p));
            Due.answers("18 size", 3, () -> roll.size(p));
            Due.answers("19 careerAt", 3, () -> roll.careerAt(p, 2));
            Due.answers("20 breaches", 0, () -> roll.breaches(p));
            Due.answers("22 degree", 1, () -> roll.degree(p, 4));
            Due.answers("22 degree", 1, () -> roll.degree(4, p));
            Due.answers("22 degree of itself", 0, () -> roll.degree(p, 1));
            Due.answers("22 degree of itself", 0, () -> roll.degree(3, p));
        }
        roll.join(4, 0);
        Due.answers("22 by a number that leads since", 1, () -> roll.degree(4, 3));
        Due.answers("18 of a number that leads since", 2, () -> roll.size(4));
    }

    private static void numbersOfBothKinds() {
        CountedRoll roll = Rolls.alike(2);
        roll.join(0, 1);
        roll.split(1);
        Due.answers("2 the third mention", 2, () -> roll.mention(0, 0, 0, 0));
        Due.answers("16 makes the fourth person", 3, () -> roll.person(2));
        Due.answers("16 mention 1 is of the third", 2, () -> roll.person(1));
        Due.answers("18 person 2", 1, () -> roll.size(2));
        Due.answers("14 by mentions, not by persons", 2, () -> roll.join(2, 1));
        Due.answers("17 person 3 leads", 2, () -> roll.entry(3));
    }
}
