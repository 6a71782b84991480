/** The edges of "Careers, kin" and of promises 19 to 22, sentence by sentence. */
public final class CareerEdgesTest {
    private static final int NONE = OfficeholdersRoll.NONE;

    public static void main(String[] args) {
        emptyCareer();
        careerOfOne();
        careerOfAll();
        thatHaveAPost();
        ofTheSameByNumbers();
        byFirstYearsAlone();
        noneBeyond();
        breachButTheFirst();
        breachBelow();
        breachOfTheOneRightAhead();
        breachesOfAll();
        breachesByRanksAtTheEnds();
        kinForGood();
        kinOfMentions();
        degreeToItself();
        degreeOfOneStep();
        degreeFewest();
        degreeGreatest();
        degreeWithoutWay();
        degreeOfSplit();
        Due.end();
    }

    /** "Returns the MENTION; NONE beyond." */
    private static void emptyCareer() {
        CountedRoll roll = Rolls.onePerson(NONE, NONE);
        for (int person = 0; person < 2; person++) {
            int p = person;
            Due.answers("19 nothing at 0", NONE, () -> roll.careerAt(p, 0));
            Due.answers("19 nothing at 1", NONE, () -> roll.careerAt(p, 1));
            Due.answers("20 no breach", 0, () -> roll.breaches(p));
        }
        Due.refuses("19 place -1 of an empty career", Due.INDEX, roll, r -> r.careerAt(0, -1));
        Due.answers("18 though there are two", 2, () -> roll.size(0));
    }

    private static void careerOfOne() {
        CountedRoll roll = Rolls.onePerson(0);
        Due.answers("19 place: 0 for the first one", 0, () -> roll.careerAt(0, 0));
        Due.answers("19 one beyond", NONE, () -> roll.careerAt(0, 1));
        Due.answers("20 the first one is no breach", 0, () -> roll.breaches(0));
    }

    private static void careerOfAll() {
        CountedRoll roll = Rolls.onePerson(0, 1, 2, 3, 4, 5, 6, 7, 0, 1, 2, 3, 4, 5, 6, 7);
        for (int mention = 0; mention < 16; mention++) {
            roll.find(mention, 100 - mention, 999);
        }
        for (int place = 0; place < 16; place++) {
            int k = place;
            Due.answers("19 place " + k + " of 16", 15 - k, () -> roll.careerAt(0, k));
        }
        Due.answers("19 one beyond 16", NONE, () -> roll.careerAt(0, 16));
        Due.answers("20 of 16 backwards", 14, () -> roll.breaches(0));
        Due.refuses("19 place -1 of 16", Due.INDEX, roll, r -> r.careerAt(0, -1));
    }

    /** "a row of its MENTIONS that have a POST" */
    private static void thatHaveAPost() {
        CountedRoll roll = Rolls.onePerson(NONE, 0, NONE, 7, NONE);
        Due.is("19 posts 0 and 7", " 1 3", Look.careerOf(roll, 0));
        roll.find(2, 0, 0);
        roll.find(1, 500, 500);
        Due.is("19 no place for one without a post", " 3 1", Look.careerOf(roll, 0));
        Due.answers("19 one beyond", NONE, () -> roll.careerAt(0, 2));
        Due.answers("20 one without a post is not right ahead", 1, () -> roll.breaches(0));
    }

    /** "by their first years, of the same by numbers" */
    private static void ofTheSameByNumbers() {
        CountedRoll roll = Rolls.onePerson(1, 2, 3, 4, 5);
        Due.is("19 all of the same", " 0 1 2 3 4", Look.careerOf(roll, 0));
        roll.find(0, 7, 999);
        roll.find(3, 7, 999);
        Due.is("19 two of the same behind three of the same", " 1 2 4 0 3", Look.careerOf(roll, 0));
        roll.find(1, 7, 999);
        Due.is("19 three of the same behind two", " 2 4 0 1 3", Look.careerOf(roll, 0));
        roll.find(0, 8, 999);
        Due.is("19 one year later", " 2 4 1 3 0", Look.careerOf(roll, 0));
        roll.split(0);
        roll.join(4, 0);
        Due.is("19 the order of joins does not matter", " 2 4 1 3 0", Look.careerOf(roll, 0));
        CountedRoll joined = Rolls.alike(3);
        joined.join(2, 1);
        joined.join(1, 0);
        Due.is("19 by numbers, though joined from behind", " 0 1 2", Look.careerOf(joined, 2));
    }

    private static void byFirstYearsAlone() {
        CountedRoll roll = Rolls.onePerson(1, 2);
        roll.find(1, 0, 0);
        Due.is("19 the last year does not matter", " 0 1", Look.careerOf(roll, 0));
        roll.find(0, 0, 998);
        Due.is("19 the last year does not matter", " 0 1", Look.careerOf(roll, 0));
        roll.find(0, 1, 998);
        Due.is("19 the first year does", " 1 0", Look.careerOf(roll, 0));
        CountedRoll bound = Rolls.onePerson(1, 2);
        bound.mention(5, NONE, 5, NONE);
        bound.ahead(2, 0, 50);
        Due.is("19 the first year in some dating", " 1 0", Look.careerOf(bound, 0));
    }

    private static void noneBeyond() {
        CountedRoll roll = Rolls.onePerson(1, 2, 3);
        Due.answers("19 the last place", 2, () -> roll.careerAt(2, 2));
        for (int place : new int[] {3, 4, 15, 16, 39, 40, 1 << 16, Integer.MAX_VALUE}) {
            Due.answers("19 beyond, " + place, NONE, () -> roll.careerAt(2, place));
        }
    }

    /** "A breach is a MENTION in it, but the first one" */
    private static void breachButTheFirst() {
        CountedRoll roll = Rolls.onePerson(0);
        roll.rank(0, 0);
        Due.answers("20 the least rank, alone", 0, () -> roll.breaches(0));
        CountedRoll two = Rolls.onePerson(0, 7);
        Due.answers("20 the least rank first", 0, () -> two.breaches(0));
        CountedRoll apart = Rolls.alike(1);
        apart.mention(0, 0, 0, 7);
        apart.mention(0, 0, 0, 0);
        apart.join(1, 2);
        Due.answers("20 another person's is not right ahead", 0, () -> apart.breaches(0));
        Due.answers("20 of its own", 1, () -> apart.breaches(1));
        Due.answers("20 of its own, by a number that leads", 1, () -> apart.breaches(2));
    }

    /** "the rank of whose POST is below that of the one right ahead" */
    private static void breachBelow() {
        CountedRoll roll = Rolls.onePerson(3, 4);
        Due.answers("20 above by one", 0, () -> roll.breaches(0));
        roll.rank(3, 4);
        Due.answers("20 the same rank", 0, () -> roll.breaches(0));
        roll.rank(3, 5);
        Due.answers("20 below by one", 1, () -> roll.breaches(0));
        roll.find(0, 1, 999);
        Due.answers("20 the other way round", 0, () -> roll.breaches(0));
        Due.answers("20 the same post", 0, () -> Rolls.onePerson(6, 6).breaches(0));
    }

    private static void breachOfTheOneRightAhead() {
        Due.answers("20 below the first one alone", 1, () -> Rolls.onePerson(7, 1, 2, 3).breaches(0));
        Due.answers("20 each below the one right ahead", 3, () -> Rolls.onePerson(3, 2, 1, 0).breaches(0));
        Due.answers("20 each other one", 2, () -> Rolls.onePerson(1, 0, 1, 0).breaches(0));
        Due.answers("20 the last one alone", 1, () -> Rolls.onePerson(1, 2, 3, 2).breaches(0));
    }

    private static void breachesOfAll() {
        CountedRoll roll = Rolls.onePerson(7, 6, 5, 4, 3, 2, 1, 0, 7, 6, 5, 4, 3, 2, 1, 0);
        Due.answers("20 of 16", 14, () -> roll.breaches(0));
        for (int post = 0; post < 8; post++) {
            roll.rank(post, 9);
        }
        Due.answers("20 of one rank", 0, () -> roll.breaches(0));
        roll.rank(0, 0);
        Due.answers("20 two below", 2, () -> roll.breaches(0));
        roll.split(15);
        Due.answers("20 one below", 1, () -> roll.breaches(15));
    }

    private static void breachesByRanksAtTheEnds() {
        CountedRoll roll = Rolls.onePerson(0, 7);
        roll.rank(0, 9);
        roll.rank(7, 9);
        Due.answers("20 both of the greatest rank", 0, () -> roll.breaches(0));
        roll.rank(7, 8);
        Due.answers("20 one below the greatest", 1, () -> roll.breaches(0));
        roll.rank(0, 0);
        roll.rank(7, 0);
        Due.answers("20 both of the least rank", 0, () -> roll.breaches(0));
        roll.rank(0, 1);
        Due.answers("20 one below the other", 1, () -> roll.breaches(0));
    }

    /** "Two unlike MENTIONS can be told to be kin, for good." */
    private static void kinForGood() {
        CountedRoll roll = Rolls.alike(3);
        Due.answers("21 not told", false, () -> roll.kin(2, 0));
        Due.answers("21 told", true, () -> roll.kin(2, 0));
        Due.answers("21 told, the other way round", true, () -> roll.kin(0, 2));
        Due.answers("21 not told of others", false, () -> roll.kin(0, 1));
        Due.answers("22 still kin", 1, () -> roll.degree(0, 2));
        roll.join(0, 2);
        Due.answers("21 for good, in one person", true, () -> roll.kin(0, 2));
        roll.split(2);
        Due.answers("21 for good, split off", true, () -> roll.kin(0, 2));
        Due.answers("22 for good, split off", 1, () -> roll.degree(0, 3));
    }

    private static void kinOfMentions() {
        CountedRoll roll = Rolls.alike(4);
        roll.kin(0, 2);
        roll.join(0, 1);
        Due.answers("21 not of another one of the person", false, () -> roll.kin(1, 2));
        roll.join(2, 3);
        Due.answers("21 not of others of both persons", false, () -> roll.kin(1, 3));
        Due.answers("21 not within the person", false, () -> roll.kin(0, 1));
    }

    /** "0 from one to itself" */
    private static void degreeToItself() {
        CountedRoll roll = Rolls.alike(3);
        Due.answers("22 without kin", 0, () -> roll.degree(2, 2));
        roll.kin(0, 1);
        Due.answers("22 with kin", 0, () -> roll.degree(0, 0));
        roll.join(0, 1);
        Due.answers("22 kin of its own", 0, () -> roll.degree(0, 0));
        Due.answers("22 by two numbers", 0, () -> roll.degree(1, 0));
        Due.answers("22 by the number that leads", 0, () -> roll.degree(1, 1));
        Due.answers("22 to others no steps lead", NONE, () -> roll.degree(1, 2));
    }

    /** "if some MENTION of the one and some of the other are kin" */
    private static void degreeOfOneStep() {
        CountedRoll roll = Rolls.alike(6);
        for (int m = 1; m < 3; m++) {
            roll.join(0, m);
            roll.join(3, m + 3);
        }
        Due.answers("22 before", NONE, () -> roll.degree(0, 3));
        roll.kin(5, 2);
        Due.answers("22 by the last ones", 1, () -> roll.degree(0, 3));
        Due.answers("22 by the last ones, the other way round", 1, () -> roll.degree(3, 0));
        Due.answers("22 by numbers that lead", 1, () -> roll.degree(1, 4));
    }

    /** "the fewest steps from the one to the other" */
    private static void degreeFewest() {
        CountedRoll roll = Rolls.alike(6);
        for (int m = 1; m < 6; m++) {
            roll.kin(m - 1, m);
        }
        Due.answers("22 one way", 5, () -> roll.degree(0, 5));
        roll.kin(1, 4);
        Due.answers("22 a way of fewer steps", 3, () -> roll.degree(0, 5));
        Due.answers("22 back", 3, () -> roll.degree(5, 0));
        roll.kin(5, 0);
        Due.answers("22 the fewest", 1, () -> roll.degree(0, 5));
        Due.answers("22 round the other way", 3, () -> roll.degree(3, 0));
        roll.join(2, 5);
        Due.answers("22 by a person of two", 2, () -> roll.degree(3, 0));
    }

    private static void degreeGreatest() {
        CountedRoll roll = Rolls.alike(16);
        for (int m = 15; m > 0; m--) {
            roll.kin(m, m - 1);
        }
        Due.answers("22 of 16 in a row", 15, () -> roll.degree(15, 0));
        Due.answers("22 of 16 in a row", 15, () -> roll.degree(0, 15));
        Due.answers("22 all but one", 14, () -> roll.degree(0, 14));
        roll.join(7, 8);
        Due.answers("22 two of them joined", 14, () -> roll.degree(0, 15));
        roll.join(0, 15);
        Due.answers("22 the ends joined", 7, () -> roll.degree(15, 8));
    }

    /** "NONE if no steps lead from the one to the other" */
    private static void degreeWithoutWay() {
        CountedRoll roll = Rolls.alike(16);
        Due.answers("22 no kin", NONE, () -> roll.degree(0, 15));
        for (int m = 1; m < 15; m++) {
            roll.kin(m - 1, m);
        }
        Due.answers("22 all but one", NONE, () -> roll.degree(0, 15));
        Due.answers("22 all but one, the other way round", NONE, () -> roll.degree(15, 14));
        Due.answers("22 the last one to itself", 0, () -> roll.degree(15, 15));
    }

    private static void degreeOfSplit() {
        CountedRoll roll = Rolls.withPersons(3, 40);
        roll.kin(1, 2);
        Due.answers("22 the last person", 1, () -> roll.degree(39, 2));
        Due.answers("22 the last person, the other way round", 1, () -> roll.degree(2, 39));
        Due.answers("22 a number that leads elsewhere", NONE, () -> roll.degree(38, 2));
        roll.kin(0, 2);
        Due.answers("22 two steps", 2, () -> roll.degree(0, 39));
        Due.answers("22 by a number that leads", 2, () -> roll.degree(39, 38));
    }
}
