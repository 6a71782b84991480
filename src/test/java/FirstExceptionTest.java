/**
 * "If several apply, the one that is named first in the throws clause is thrown; a call that throws changes nothing."
 */
public final class FirstExceptionTest {
    private static final int NONE = OfficeholdersRoll.NONE;

    public static void main(String[] args) {
        mentionIndexFirst();
        mentionArgumentBeforeState();
        rankAndBar();
        aheadIndexFirst();
        aheadArgumentBeforeState();
        find();
        wouldMove();
        twoMentions();
        joinIndexFirst();
        joinArgumentBeforeState();
        split();
        rival();
        Due.end();
    }

    private static void mentionIndexFirst() {
        Refusals busy = new Refusals(Rolls::busy);
        busy.of("2 post and name", Due.INDEX, roll -> roll.mention(10, 0, 0, 8));
        busy.of("2 post and family", Due.INDEX, roll -> roll.mention(0, -2, 0, -2));
        busy.of("2 post and place", Due.INDEX, roll -> roll.mention(0, 0, 6, 8));
        busy.of("2 post and all others", Due.INDEX, roll -> roll.mention(-1, 10, -1, -2));
        Refusals full = new Refusals(() -> Rolls.alike(16));
        full.of("2 post and 16 mentions", Due.INDEX, roll -> roll.mention(0, 0, 0, 8));
        full.of("2 post, name and 16 mentions", Due.INDEX, roll -> roll.mention(-1, 0, 0, 8));
        Refusals persons = new Refusals(() -> Rolls.withPersons(2, 40));
        persons.of("2 post and 40 persons", Due.INDEX, roll -> roll.mention(0, 0, 0, -2));
        persons.of("2 post, place and 40 persons", Due.INDEX, roll -> roll.mention(0, 0, -1, 8));
    }

    private static void mentionArgumentBeforeState() {
        Refusals full = new Refusals(() -> Rolls.alike(16));
        full.of("2 name and 16 mentions", Due.ARGUMENT, roll -> roll.mention(10, 0, 0, 0));
        full.of("2 family and 16 mentions", Due.ARGUMENT, roll -> roll.mention(0, 10, 0, 0));
        full.of("2 place and 16 mentions", Due.ARGUMENT, roll -> roll.mention(0, 0, 6, NONE));
        Refusals persons = new Refusals(() -> Rolls.withPersons(2, 40));
        persons.of("2 name and 40 persons", Due.ARGUMENT, roll -> roll.mention(-1, 0, 0, NONE));
        persons.of("2 family and 40 persons", Due.ARGUMENT, roll -> roll.mention(0, -2, 0, 0));
        persons.of("2 place and 40 persons", Due.ARGUMENT, roll -> roll.mention(0, 0, -1, 0));
    }

    private static void rankAndBar() {
        Refusals busy = new Refusals(Rolls::busy);
        busy.of("3 post and rank", Due.INDEX, roll -> roll.rank(8, 10));
        busy.of("3 post and rank", Due.INDEX, roll -> roll.rank(-1, -1));
        busy.of("4 no such post, both the same", Due.INDEX, roll -> roll.bar(8, 8, true));
        busy.of("4 no such post, both the same", Due.INDEX, roll -> roll.bar(-1, -1, false));
    }

    private static void aheadIndexFirst() {
        Refusals busy = new Refusals(Rolls::busy);
        busy.of("5 no such mention, both the same", Due.INDEX, roll -> roll.ahead(6, 6, 0));
        busy.of("5 no former, gap", Due.INDEX, roll -> roll.ahead(6, 0, 51));
        busy.of("5 no latter, gap", Due.INDEX, roll -> roll.ahead(0, 6, -51));
        busy.of("5 neither, both the same, gap", Due.INDEX, roll -> roll.ahead(-1, -1, 51));
        Refusals told = new Refusals(() -> Rolls.withTellings(40));
        told.of("5 no former, told 40 times", Due.INDEX, roll -> roll.ahead(3, 0, 0));
        told.of("5 no latter, told 40 times", Due.INDEX, roll -> roll.ahead(0, -1, 0));
        told.of("5 no latter, gap, told 40 times", Due.INDEX, roll -> roll.ahead(0, 3, 51));
    }

    private static void aheadArgumentBeforeState() {
        Refusals told = new Refusals(() -> Rolls.withTellings(40));
        told.of("5 both the same, told 40 times", Due.ARGUMENT, roll -> roll.ahead(1, 1, 0));
        told.of("5 gap 51, told 40 times", Due.ARGUMENT, roll -> roll.ahead(0, 1, 51));
        told.of("5 gap -51, told 40 times", Due.ARGUMENT, roll -> roll.ahead(0, 1, -51));
        Refusals busy = new Refusals(Rolls::busy);
        busy.of("5 both the same, no dating", Due.ARGUMENT, roll -> roll.ahead(0, 0, 1));
        busy.of("5 gap 51, no dating", Due.ARGUMENT, roll -> roll.ahead(3, 0, 51));
        busy.of("5 no dating alone", Due.STATE, roll -> roll.ahead(3, 0, 50));
    }

    private static void find() {
        Refusals busy = new Refusals(Rolls::busy);
        busy.of("6 no such mention, low", Due.INDEX, roll -> roll.find(6, -1, 5));
        busy.of("6 no such mention, high", Due.INDEX, roll -> roll.find(-1, 0, 1000));
        busy.of("6 no such mention, high below low", Due.INDEX, roll -> roll.find(6, 5, 4));
        busy.of("6 high below low, no dating", Due.ARGUMENT, roll -> roll.find(0, 50, 49));
        busy.of("6 low, no dating", Due.ARGUMENT, roll -> roll.find(0, -1, 99));
        busy.of("6 high, no dating", Due.ARGUMENT, roll -> roll.find(0, 201, 1000));
        busy.of("6 no dating alone", Due.STATE, roll -> roll.find(0, 0, 99));
    }

    private static void wouldMove() {
        Refusals busy = new Refusals(Rolls::busy);
        busy.of("7 no such mention, low", Due.INDEX, roll -> roll.wouldMove(6, -1, 5));
        busy.of("7 no such mention, high", Due.INDEX, roll -> roll.wouldMove(-1, 0, 1000));
        busy.of("7 no such mention, high below low", Due.INDEX, roll -> roll.wouldMove(6, 5, 4));
        busy.of("7 high below low, no dating", Due.ARGUMENT, roll -> roll.wouldMove(0, 50, 49));
        busy.of("7 low, no dating", Due.ARGUMENT, roll -> roll.wouldMove(0, -1, 99));
        Due.answers("7 no dating alone", NONE, () -> Rolls.busy().wouldMove(0, 0, 99));
    }

    /** Of two mentions that are the same one, and there is no such mention. */
    private static void twoMentions() {
        Refusals busy = new Refusals(Rolls::busy);
        for (int m : new int[] {-1, 6, Integer.MIN_VALUE, Integer.MAX_VALUE}) {
            busy.of("10 seal", Due.INDEX, roll -> roll.seal(m, m));
            busy.of("11 block", Due.INDEX, roll -> roll.block(m, m, true));
            busy.of("11 unblock", Due.INDEX, roll -> roll.block(m, m, false));
            busy.of("12 weight", Due.INDEX, roll -> roll.weight(m, m));
            busy.of("13 whyNot", Due.INDEX, roll -> roll.whyNot(m, m));
            busy.of("21 kin", Due.INDEX, roll -> roll.kin(m, m));
        }
    }

    private static void joinIndexFirst() {
        Refusals busy = new Refusals(Rolls::busy);
        busy.of("14 no such mention, both the same", Due.INDEX, roll -> roll.join(6, 6));
        busy.of("14 no such mention, both the same", Due.INDEX, roll -> roll.join(-1, -1));
        busy.of("14 no such mention, which nothing joins", Due.INDEX, roll -> roll.join(4, 6));
        busy.of("14 no such mention, which nothing joins", Due.INDEX, roll -> roll.join(-1, 4));
    }

    /** One mention belongs to one person, which would be the first reason not to join it. */
    private static void joinArgumentBeforeState() {
        Refusals busy = new Refusals(Rolls::busy);
        for (int mention = 0; mention < 6; mention++) {
            int m = mention;
            busy.of("14 both the same", Due.ARGUMENT, roll -> roll.join(m, m));
            busy.of("13 both the same", Due.ARGUMENT, roll -> roll.whyNot(m, m));
        }
        busy.of("14 one person alone", Due.STATE, roll -> roll.join(1, 2));
    }

    private static void split() {
        Refusals persons = new Refusals(() -> Rolls.withPersons(2, 40));
        persons.of("15 no such mention, 40 persons", Due.INDEX, roll -> roll.split(2));
        persons.of("15 no such mention, 40 persons", Due.INDEX, roll -> roll.split(-1));
        persons.of("15 alone, 40 persons", Due.STATE, roll -> roll.split(0));
    }

    private static void rival() {
        Refusals busy = new Refusals(Rolls::busy);
        busy.of("25 no such mention, label", Due.INDEX, roll -> roll.rival(6, 16));
        busy.of("25 no such mention, label", Due.INDEX, roll -> roll.rival(-1, -2));
        busy.of("25 label alone", Due.ARGUMENT, roll -> roll.rival(5, 16));
    }
}
