/** Promises 1 to 4: a new object, mention, rank, bar. */
public final class MentionsTest {
    private static final int NONE = OfficeholdersRoll.NONE;

    public static void main(String[] args) {
        newObject();
        mention();
        mentionRefused();
        mentionOrderOfExceptions();
        mentionsFull();
        personsFull();
        rank();
        bar();
        barMatters();
        objectsAreApart();
        Due.end();
    }

    /** 1 */
    private static void newObject() {
        CountedRoll roll = new CountedRoll();
        Due.is("1 NONE", -1, NONE);
        Due.answers("1 person(0)", Due.INDEX, () -> roll.person(0));
        Due.answers("1 year(0)", Due.INDEX, () -> roll.year(0, false));
        Due.answers("1 entry(0)", Due.INDEX, () -> roll.entry(0));
        Due.answers("1 size(0)", Due.INDEX, () -> roll.size(0));
        Due.answers("1 best(0)", 0, () -> roll.best(0));
        Due.answers("1 bestAnew(0)", 0, () -> roll.bestAnew(0));
        Due.answers("1 best(1)", Due.ARGUMENT, () -> roll.best(1));
        Due.answers("1 differ", 0, roll::differ);
        for (int post = 0; post < 8; post++) {
            int p = post;
            Due.answers("1 the rank of a post is its number", p, () -> roll.rank(p, 9));
            for (int other = 0; other < post; other++) {
                int o = other;
                Due.answers("1 no posts are barred", false, () -> roll.bar(p, o, false));
            }
        }
        Due.answers("1 the first mention is 0", 0, () -> roll.mention(0, 0, 0, 0));
    }

    /** 2 */
    private static void mention() {
        CountedRoll roll = new CountedRoll();
        int[][] told = {{0, 0, 0, 0}, {9, 9, 5, 7}, {9, NONE, 0, NONE}, {0, 9, 5, 0}};
        for (int k = 0; k < told.length; k++) {
            int[] m = told[k];
            int number = k;
            Due.answers("2 mention", number, () -> roll.mention(m[0], m[1], m[2], m[3]));
            Due.answers("2 its person", number, () -> roll.person(number));
            Due.answers("2 its entry", number, () -> roll.entry(number));
            Due.answers("2 its size", 1, () -> roll.size(number));
            Due.answers("2 its first year", 0, () -> roll.year(number, false));
            Due.answers("2 its last year", 999, () -> roll.year(number, true));
            Due.answers("2 its career", m[3] == NONE ? NONE : number, () -> roll.careerAt(number, 0));
            Due.answers("2 its label", NONE, () -> roll.rival(number, NONE));
        }
        Due.answers("2 weight 1 2: the name", 2, () -> roll.weight(1, 2));
        Due.answers("2 weight 0 3: name and post", 4, () -> roll.weight(0, 3));
        Due.answers("2 weight 1 3: family and place", 4, () -> roll.weight(1, 3));
        Due.answers("2 weight 0 2: the place", 1, () -> roll.weight(0, 2));
    }

    private static void mentionRefused() {
        CountedRoll roll = new CountedRoll();
        roll.mention(1, 1, 1, 1);
        Due.refuses("2 post 8", Due.INDEX, roll, () -> roll.mention(0, 0, 0, 8));
        Due.refuses("2 post -2", Due.INDEX, roll, () -> roll.mention(0, 0, 0, -2));
        Due.refuses("2 post least", Due.INDEX, roll, () -> roll.mention(0, 0, 0, Integer.MIN_VALUE));
        Due.refuses("2 post greatest", Due.INDEX, roll, () -> roll.mention(0, 0, 0, Integer.MAX_VALUE));
        Due.refuses("2 name -1", Due.ARGUMENT, roll, () -> roll.mention(-1, 0, 0, 0));
        Due.refuses("2 name 10", Due.ARGUMENT, roll, () -> roll.mention(10, 0, 0, 0));
        Due.refuses("2 family -2", Due.ARGUMENT, roll, () -> roll.mention(0, -2, 0, 0));
        Due.refuses("2 family 10", Due.ARGUMENT, roll, () -> roll.mention(0, 10, 0, 0));
        Due.refuses("2 place -1", Due.ARGUMENT, roll, () -> roll.mention(0, 0, -1, 0));
        Due.refuses("2 place 6", Due.ARGUMENT, roll, () -> roll.mention(0, 0, 6, NONE));
        Due.answers("2 goes on", 1, () -> roll.mention(0, 0, 0, 0));
    }

    private static void mentionOrderOfExceptions() {
        CountedRoll roll = Rolls.alike(16);
        Due.answers("2 post ahead of name", Due.INDEX, () -> roll.mention(10, 0, 0, 8));
        Due.answers("2 name ahead of no room", Due.ARGUMENT, () -> roll.mention(10, 0, 0, 0));
        Due.answers("2 post ahead of no room", Due.INDEX, () -> roll.mention(0, 0, 0, 8));
    }

    private static void mentionsFull() {
        CountedRoll roll = Rolls.alike(16);
        Due.answers("2 the last one", 15, () -> roll.person(15));
        Due.answers("2 a 17th", Due.STATE, () -> roll.mention(0, 0, 0, 0));
        Due.answers("2 no 17th", Due.INDEX, () -> roll.person(16));
        Due.answers("2 no 17th person", Due.INDEX, () -> roll.entry(16));
    }

    private static void personsFull() {
        CountedRoll roll = Rolls.alike(2);
        for (int number = 2; number < 40; number++) {
            int due = number;
            roll.join(0, 1);
            Due.answers("15 split", due, () -> roll.split(1));
        }
        Due.refuses("2 mention at 40 persons", Due.STATE, roll, () -> roll.mention(0, 0, 0, 0));
        Due.answers("2 family ahead of no room", Due.ARGUMENT, () -> roll.mention(0, 10, 0, 0));
        roll.join(0, 1);
        Due.refuses("15 split at 40 persons", Due.STATE, roll, () -> roll.split(1));
        Due.refuses("2 mention at 40 persons, joined", Due.STATE, roll, () -> roll.mention(0, 0, 0, 0));
        Due.answers("17 the last person", 0, () -> roll.entry(39));
        Due.answers("17 no 41st", Due.INDEX, () -> roll.entry(40));
    }

    /** 3 */
    private static void rank() {
        CountedRoll roll = new CountedRoll();
        Due.answers("3 rank(3, 9)", 3, () -> roll.rank(3, 9));
        Due.answers("3 rank(3, 0)", 9, () -> roll.rank(3, 0));
        Due.answers("3 rank(3, 0) again", 0, () -> roll.rank(3, 0));
        Due.answers("3 rank(0, 5)", 0, () -> roll.rank(0, 5));
        Due.answers("3 rank(7, 5)", 7, () -> roll.rank(7, 5));
        Due.answers("3 rank(-1, 0)", Due.INDEX, () -> roll.rank(-1, 0));
        Due.answers("3 rank(8, 0)", Due.INDEX, () -> roll.rank(8, 0));
        Due.answers("3 rank(8, 10)", Due.INDEX, () -> roll.rank(8, 10));
        Due.answers("3 rank(7, -1)", Due.ARGUMENT, () -> roll.rank(7, -1));
        Due.answers("3 rank(7, 10)", Due.ARGUMENT, () -> roll.rank(7, 10));
        Due.answers("3 refused changed nothing", 5, () -> roll.rank(7, 5));
    }

    /** 4 */
    private static void bar() {
        CountedRoll roll = new CountedRoll();
        Due.answers("4 bar(0, 7, true)", false, () -> roll.bar(0, 7, true));
        Due.answers("4 bar(7, 0, true)", true, () -> roll.bar(7, 0, true));
        Due.answers("4 bar(0, 6, false)", false, () -> roll.bar(0, 6, false));
        Due.answers("4 bar(6, 7, false)", false, () -> roll.bar(6, 7, false));
        Due.answers("4 bar(7, 0, false)", true, () -> roll.bar(7, 0, false));
        Due.answers("4 bar(0, 7, false)", false, () -> roll.bar(0, 7, false));
        Due.answers("4 bar(0, 0)", Due.ARGUMENT, () -> roll.bar(0, 0, true));
        Due.answers("4 bar(8, 8)", Due.INDEX, () -> roll.bar(8, 8, true));
        Due.answers("4 bar(0, 8)", Due.INDEX, () -> roll.bar(0, 8, true));
        Due.answers("4 bar(-1, 0)", Due.INDEX, () -> roll.bar(-1, 0, true));
        Due.answers("4 bar(0, -1)", Due.INDEX, () -> roll.bar(0, -1, true));
    }

    private static void barMatters() {
        CountedRoll roll = new CountedRoll();
        roll.mention(0, 0, 0, 2);
        roll.mention(0, 0, 0, 5);
        roll.find(0, 7, 7);
        roll.find(1, 7, 7);
        roll.bar(5, 2, true);
        Due.answers("4 barred", 4, () -> roll.whyNot(0, 1));
        roll.bar(2, 5, false);
        Due.answers("4 no longer barred", 0, () -> roll.whyNot(0, 1));
    }

    private static void objectsAreApart() {
        CountedRoll one = Rolls.alike(3);
        CountedRoll other = Rolls.alike(1);
        one.rank(2, 9);
        one.find(0, 5, 6);
        Due.answers("1 another object has its own mentions", Due.INDEX, () -> other.person(1));
        Due.answers("1 its own ranks", 2, () -> other.rank(2, 2));
        Due.answers("1 its own years", 999, () -> other.year(0, true));
    }
}
