/**
 * Promise 1, "Begins without MENTIONS", and what each other call answers then: there is no mention and no person,
 * but there are the posts, no mentions to choose, and nothing by which the rolls differ.
 */
public final class EmptyRollTest {
    private static final int NONE = OfficeholdersRoll.NONE;

    public static void main(String[] args) {
        noMentions();
        noPersons();
        bestOfNone();
        differsByNothing();
        ranksAtFirst();
        barsAtFirst();
        firstMention();
        nothingIsTold();
        objectsAreApart();
        Due.end();
    }

    private static void noMentions() {
        Refusals empty = new Refusals(CountedRoll::new);
        for (Calls.Open open : Calls.ofMention()) {
            empty.of("1 without mentions, " + open.name(), Due.INDEX, roll -> open.call().apply(roll, 0));
        }
        empty.of("1 without mentions, ahead of itself", Due.INDEX, roll -> roll.ahead(0, 0, 0));
        empty.of("1 without mentions, joined with itself", Due.INDEX, roll -> roll.join(0, 0));
    }

    private static void noPersons() {
        Refusals empty = new Refusals(CountedRoll::new);
        for (Calls.Open open : Calls.ofPerson()) {
            empty.of("1 without persons, " + open.name(), Due.INDEX, roll -> open.call().apply(roll, 0));
        }
    }

    /** "if mentions has others than there are": each bit is one of them. */
    private static void bestOfNone() {
        Refusals empty = new Refusals(CountedRoll::new);
        Due.answers("23 of no mentions", 0, () -> new CountedRoll().best(0));
        Due.answers("24 of no mentions", 0, () -> new CountedRoll().bestAnew(0));
        for (int bit = 0; bit < 32; bit++) {
            int mentions = 1 << bit;
            empty.of("23 without mentions, bit " + bit, Due.ARGUMENT, roll -> roll.best(mentions));
            empty.of("24 without mentions, bit " + bit, Due.ARGUMENT, roll -> roll.bestAnew(mentions));
        }
    }

    private static void differsByNothing() {
        Due.answers("26 without mentions", 0, () -> new CountedRoll().differ());
    }

    /** "A POST has a rank, 0 to 9, at first its number." */
    private static void ranksAtFirst() {
        CountedRoll roll = new CountedRoll();
        for (int post = 0; post < 8; post++) {
            int p = post;
            Due.answers("3 at first its number", p, () -> roll.rank(p, 9 - p));
        }
        for (int post = 0; post < 8; post++) {
            int p = post;
            Due.answers("3 each has its own", 9 - p, () -> roll.rank(p, 0));
        }
    }

    /** "Two unlike POSTS can be BARRED with each other, not at first." */
    private static void barsAtFirst() {
        CountedRoll roll = new CountedRoll();
        for (int post = 0; post < 8; post++) {
            for (int other = 0; other < 8; other++) {
                int p = post;
                int o = other;
                if (p != o) {
                    Due.answers("4 not at first", p > o, () -> roll.bar(p, o, true));
                }
            }
        }
    }

    /** "numbered from 0", "each MENTION makes a new one, to which it belongs". */
    private static void firstMention() {
        CountedRoll roll = new CountedRoll();
        Due.answers("2 from 0", 0, () -> roll.mention(0, 0, 0, 0));
        Due.answers("16 persons from 0", 0, () -> roll.person(0));
        Due.answers("17 leads to itself", 0, () -> roll.entry(0));
        Due.answers("18 the one", 1, () -> roll.size(0));
        Due.answers("17 no second one", Due.INDEX, () -> roll.entry(1));
        Due.answers("22 to itself", 0, () -> roll.degree(0, 0));
        Due.answers("23 of the one", 0, () -> roll.best(1));
        Due.answers("24 of the one", 0, () -> roll.bestAnew(1));
        Due.answers("26 one makes no pair", 0, roll::differ);
        Due.answers("10 no other one", Due.INDEX, () -> roll.seal(0, 1));
    }

    /** Nothing is told of two mentions that were just told. */
    private static void nothingIsTold() {
        CountedRoll roll = new CountedRoll();
        roll.mention(0, 0, 0, 0);
        roll.mention(1, NONE, 1, 1);
        Due.answers("12 no seal", 0, () -> roll.weight(0, 1));
        Due.answers("11 no block", false, () -> roll.block(0, 1, false));
        Due.answers("22 no kin", NONE, () -> roll.degree(0, 1));
        Due.answers("21 no kin", false, () -> roll.kin(0, 1));
        Due.answers("10 no seal", false, () -> roll.seal(0, 1));
        Due.answers("25 no label", NONE, () -> roll.rival(0, NONE));
        Due.answers("25 no label", NONE, () -> roll.rival(1, NONE));
    }

    private static void objectsAreApart() {
        CountedRoll busy = Rolls.busy();
        String empty = Look.at(new CountedRoll());
        Due.is("1 a new object while another one is used", empty, Look.at(new CountedRoll()));
        CountedRoll other = Rolls.alike(2);
        String before = Look.at(other);
        busy.find(0, 150, 160);
        busy.rank(0, 9);
        Due.is("1 another object's calls change nothing", before, Look.at(other));
    }
}
