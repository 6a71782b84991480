/** Promises 19 to 22: careerAt, breaches, kin, degree. */
public final class CareersTest {
    private static final int NONE = OfficeholdersRoll.NONE;

    public static void main(String[] args) {
        careerByYears();
        careerWithoutPosts();
        careerRefused();
        breaches();
        breachesByRanks();
        breachesRefused();
        kin();
        degrees();
        degreesOfJoined();
        longestWay();
        degreeRefused();
        Due.end();
    }

    /** 19 */
    private static void careerByYears() {
        CountedRoll roll = Rolls.onePerson(1, 2, 3, 4);
        Due.is("19 of the same year by numbers", " 0 1 2 3", Look.careerOf(roll, 0));
        roll.find(0, 50, 60);
        Due.is("19 the later one goes behind", " 1 2 3 0", Look.careerOf(roll, 0));
        roll.find(2, 50, 50);
        Due.is("19 last years do not matter", " 1 3 0 2", Look.careerOf(roll, 0));
        roll.ahead(0, 3, 1);
        Due.is("19 by the first year of some dating", " 1 0 2 3", Look.careerOf(roll, 0));
        Due.is("19 asked of a number that leads there", " 1 0 2 3", Look.careerOf(roll, 3));
        roll.split(2);
        Due.is("19 without the one split off", " 1 0 3", Look.careerOf(roll, 2));
        Due.is("19 the one split off", " 2", Look.careerOf(roll, 4));
    }

    private static void careerWithoutPosts() {
        CountedRoll roll = new CountedRoll();
        roll.mention(0, 0, 0, NONE);
        roll.mention(0, 0, 0, 0);
        roll.mention(0, 0, 0, NONE);
        roll.mention(0, 0, 0, 7);
        Due.answers("19 no post, no place", NONE, () -> roll.careerAt(0, 0));
        Due.answers("20 no career, no breach", 0, () -> roll.breaches(0));
        roll.join(0, 1);
        roll.join(0, 2);
        roll.join(0, 3);
        Due.answers("19 first", 1, () -> roll.careerAt(0, 0));
        Due.answers("19 second", 3, () -> roll.careerAt(0, 1));
        Due.answers("19 right beyond", NONE, () -> roll.careerAt(0, 2));
        Due.answers("19 far beyond", NONE, () -> roll.careerAt(0, Integer.MAX_VALUE));
    }

    private static void careerRefused() {
        CountedRoll roll = Rolls.onePerson(1, 2);
        Due.refuses("19 person 2", Due.INDEX, roll, () -> roll.careerAt(2, 0));
        Due.refuses("19 person -1", Due.INDEX, roll, () -> roll.careerAt(-1, 0));
        Due.refuses("19 place -1", Due.INDEX, roll, () -> roll.careerAt(0, -1));
        Due.refuses("19 place least", Due.INDEX, roll, () -> roll.careerAt(0, Integer.MIN_VALUE));
    }

    /** 20 */
    private static void breaches() {
        Due.answers("20 one mention", 0, () -> Rolls.onePerson(5).breaches(0));
        Due.answers("20 rising", 0, () -> Rolls.onePerson(0, 3, 7).breaches(0));
        Due.answers("20 the same rank", 0, () -> Rolls.onePerson(4, 4).breaches(0));
        Due.answers("20 falling", 2, () -> Rolls.onePerson(7, 3, 0).breaches(0));
        Due.answers("20 by the one right ahead alone", 1, () -> Rolls.onePerson(7, 0, 3, 6).breaches(0));
        Due.answers("20 without a post is passed over", 1, () -> Rolls.onePerson(5, NONE, 4).breaches(0));
        CountedRoll roll = Rolls.onePerson(7, 3, 0);
        roll.find(0, 2, 999);
        roll.find(1, 1, 999);
        Due.answers("20 by years", 0, () -> roll.breaches(0));
        Due.answers("20 asked of a number that leads there", 0, () -> roll.breaches(2));
        roll.find(2, 5, 5);
        Due.answers("20 by years", 1, () -> roll.breaches(1));
    }

    private static void breachesByRanks() {
        CountedRoll roll = Rolls.onePerson(0, 1, 2);
        roll.rank(0, 9);
        Due.answers("20 by rank", 1, () -> roll.breaches(0));
        roll.rank(1, 9);
        Due.answers("20 by rank", 1, () -> roll.breaches(0));
        roll.rank(2, 9);
        Due.answers("20 all of one rank", 0, () -> roll.breaches(0));
        roll.rank(1, 8);
        Due.answers("20 by rank", 1, () -> roll.breaches(0));
        roll.rank(2, 0);
        Due.answers("20 by rank", 2, () -> roll.breaches(0));
    }

    private static void breachesRefused() {
        CountedRoll roll = Rolls.onePerson(1, 0);
        Due.refuses("20 person 2", Due.INDEX, roll, () -> roll.breaches(2));
        Due.refuses("20 person -1", Due.INDEX, roll, () -> roll.breaches(-1));
    }

    /** 21 */
    private static void kin() {
        CountedRoll roll = Rolls.alike(3);
        Due.answers("21 kin(0, 1)", false, () -> roll.kin(0, 1));
        Due.answers("21 kin(1, 0)", true, () -> roll.kin(1, 0));
        Due.answers("21 kin(0, 1) again", true, () -> roll.kin(0, 1));
        Due.answers("21 not by steps", false, () -> roll.kin(2, 1));
        Due.answers("21 not by steps", false, () -> roll.kin(0, 2));
        Due.refuses("21 no mention", Due.INDEX, roll, () -> roll.kin(0, 3));
        Due.refuses("21 no mention", Due.INDEX, roll, () -> roll.kin(-1, 0));
        Due.refuses("21 no mention, both the same", Due.INDEX, roll, () -> roll.kin(3, 3));
        Due.refuses("21 both the same", Due.ARGUMENT, roll, () -> roll.kin(2, 2));
    }

    /** 22 */
    private static void degrees() {
        CountedRoll roll = Rolls.alike(6);
        Due.answers("22 to itself", 0, () -> roll.degree(0, 0));
        Due.answers("22 no steps", NONE, () -> roll.degree(0, 1));
        roll.kin(0, 1);
        roll.kin(1, 2);
        roll.kin(2, 3);
        roll.kin(3, 4);
        Due.answers("22 one step", 1, () -> roll.degree(1, 0));
        Due.answers("22 four steps", 4, () -> roll.degree(0, 4));
        Due.answers("22 four steps back", 4, () -> roll.degree(4, 0));
        roll.kin(0, 3);
        Due.answers("22 the fewest steps", 2, () -> roll.degree(0, 4));
        Due.answers("22 the fewest steps", 2, () -> roll.degree(0, 2));
        Due.answers("22 none", NONE, () -> roll.degree(5, 0));
        Due.answers("22 none", NONE, () -> roll.degree(0, 5));
    }

    private static void degreesOfJoined() {
        CountedRoll roll = Rolls.alike(6);
        roll.kin(0, 1);
        roll.kin(2, 3);
        Due.answers("22 apart", NONE, () -> roll.degree(0, 3));
        roll.join(1, 2);
        Due.answers("22 by a person of two mentions", 2, () -> roll.degree(0, 3));
        Due.answers("22 asked of a number that leads there", 1, () -> roll.degree(2, 0));
        Due.answers("22 one person by two numbers", 0, () -> roll.degree(1, 2));
        roll.join(0, 3);
        Due.answers("22 joined ends", 1, () -> roll.degree(3, 2));
        roll.join(0, 1);
        Due.answers("22 kin within one person", 0, () -> roll.degree(3, 2));
        roll.split(2);
        Due.answers("22 split off", 1, () -> roll.degree(6, 3));
        Due.answers("22 none", NONE, () -> roll.degree(6, 4));
    }

    private static void longestWay() {
        CountedRoll roll = Rolls.alike(16);
        for (int mention = 1; mention < 16; mention++) {
            roll.kin(mention, mention - 1);
        }
        Due.answers("22 the longest way", 15, () -> roll.degree(0, 15));
        Due.answers("22 the longest way back", 15, () -> roll.degree(15, 0));
        Due.answers("22 the middle", 8, () -> roll.degree(7, 15));
        CountedRoll late = Rolls.alike(2);
        for (int turn = 0; turn < 38; turn++) {
            late.join(0, 1);
            late.split(1);
        }
        late.kin(0, 1);
        Due.answers("22 the greatest number", 1, () -> late.degree(39, 0));
        Due.answers("22 the greatest number", 1, () -> late.degree(0, 39));
        Due.answers("22 a number that leads", 0, () -> late.degree(38, 0));
    }

    private static void degreeRefused() {
        CountedRoll roll = Rolls.alike(2);
        Due.refuses("22 person 2", Due.INDEX, roll, () -> roll.degree(0, 2));
        Due.refuses("22 person 2", Due.INDEX, roll, () -> roll.degree(2, 0));
        Due.refuses("22 person 2, both the same", Due.INDEX, roll, () -> roll.degree(2, 2));
        Due.refuses("22 person -1", Due.INDEX, roll, () -> roll.degree(-1, 0));
        Due.refuses("22 person -1", Due.INDEX, roll, () -> roll.degree(0, -1));
    }
}
