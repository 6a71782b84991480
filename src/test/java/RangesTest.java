/**
 * "IllegalArgumentException: another argument is out of its range": for each argument the least and the greatest
 * value are taken, those just outside and farther out are refused; and two that must be unlike are not the same.
 */
public final class RangesTest {
    private static final int NONE = OfficeholdersRoll.NONE;

    public static void main(String[] args) {
        ofMention();
        ofRank();
        ofGap();
        ofYears();
        highFromLow();
        ofLabel();
        bothTheSame();
        bothTheSamePosts();
        ofMentionsByBits();
        atMostSix();
        Due.end();
    }

    /** "name: 0 to 9", "family: 0 to 9, or NONE", "place: 0 to 5" */
    private static void ofMention() {
        Refusals refusals = new Refusals(Rolls::busy);
        refusals.outside("2 name", Due.ARGUMENT, 0, 9, (roll, name) -> roll.mention(name, 0, 0, 0));
        refusals.inside("2 name", 0, 9, (roll, name) -> roll.mention(name, 0, 0, 0));
        refusals.outside("2 family", Due.ARGUMENT, NONE, 9, (roll, family) -> roll.mention(0, family, 0, 0));
        refusals.inside("2 family", NONE, 9, (roll, family) -> roll.mention(0, family, 0, 0));
        refusals.outside("2 place", Due.ARGUMENT, 0, 5, (roll, place) -> roll.mention(0, 0, place, 0));
        refusals.inside("2 place", 0, 5, (roll, place) -> roll.mention(0, 0, place, 0));
        refusals.of("2 no name", Due.ARGUMENT, roll -> roll.mention(NONE, 0, 0, NONE));
        refusals.of("2 no place", Due.ARGUMENT, roll -> roll.mention(0, 0, NONE, NONE));
    }

    /** "rank: 0 to 9" */
    private static void ofRank() {
        Refusals refusals = new Refusals(Rolls::busy);
        refusals.outside("3 rank", Due.ARGUMENT, 0, 9, (roll, rank) -> roll.rank(3, rank));
        refusals.outside("3 rank of the last post", Due.ARGUMENT, 0, 9, (roll, rank) -> roll.rank(7, rank));
        CountedRoll roll = new CountedRoll();
        Due.answers("3 the greatest rank", 5, () -> roll.rank(5, 9));
        Due.answers("3 the least rank", 9, () -> roll.rank(5, 0));
        Due.answers("3 the least rank was told", 0, () -> roll.rank(5, 5));
    }

    /** "gap: -50 to 50" */
    private static void ofGap() {
        Refusals refusals = new Refusals(Rolls::busy);
        refusals.outside("5 gap", Due.ARGUMENT, -50, 50, (roll, gap) -> roll.ahead(2, 4, gap));
        refusals.inside("5 gap", -50, 50, (roll, gap) -> roll.ahead(2, 4, gap));
        CountedRoll roll = Rolls.alike(3);
        Due.answers("5 the greatest gap", 2, () -> roll.ahead(0, 1, 50));
        Due.answers("8 by the greatest gap", 50, () -> roll.year(1, false));
        Due.answers("5 the least gap", 0, () -> roll.ahead(1, 2, -50));
        roll.find(2, 0, 100);
        Due.answers("8 by the least gap", 150, () -> roll.year(1, true));
    }

    /** "low: 0 to 999" */
    private static void ofYears() {
        Refusals refusals = new Refusals(Rolls::busy);
        refusals.outside("6 low", Due.ARGUMENT, 0, 999, (roll, low) -> roll.find(2, low, 999));
        refusals.inside("6 low", 0, 999, (roll, low) -> roll.find(2, low, 999));
        refusals.outside("7 low", Due.ARGUMENT, 0, 999, (roll, low) -> roll.wouldMove(2, low, 999));
        refusals.inside("7 low", 0, 999, (roll, low) -> roll.wouldMove(2, low, 999));
        refusals.outside("6 low and high", Due.ARGUMENT, 0, 999, (roll, year) -> roll.find(2, year, year));
        refusals.inside("6 low and high", 0, 999, (roll, year) -> roll.find(2, year, year));
        refusals.outside("7 low and high", Due.ARGUMENT, 0, 999, (roll, year) -> roll.wouldMove(2, year, year));
        refusals.inside("7 low and high", 0, 999, (roll, year) -> roll.wouldMove(2, year, year));
    }

    /** "high: low to 999" */
    private static void highFromLow() {
        Refusals refusals = new Refusals(Rolls::busy);
        for (int low : new int[] {0, 1, 500, 998, 999}) {
            refusals.outside("6 high from " + low, Due.ARGUMENT, low, 999, (roll, high) -> roll.find(2, low, high));
            refusals.inside("6 high from " + low, low, 999, (roll, high) -> roll.find(2, low, high));
            refusals.outside("7 high from " + low, Due.ARGUMENT, low, 999,
                    (roll, high) -> roll.wouldMove(2, low, high));
            refusals.inside("7 high from " + low, low, 999, (roll, high) -> roll.wouldMove(2, low, high));
        }
        refusals.of("6 low is out of range, high is below it", Due.ARGUMENT, roll -> roll.find(2, 1000, 999));
        refusals.of("7 low is out of range, high is below it", Due.ARGUMENT, roll -> roll.wouldMove(2, 1000, 999));
        refusals.of("6 both ends out of range", Due.ARGUMENT, roll -> roll.find(2, -1, 1000));
        refusals.of("7 both ends out of range", Due.ARGUMENT, roll -> roll.wouldMove(2, -1, 1000));
    }

    /** "label: 0 to 15, or NONE" */
    private static void ofLabel() {
        Refusals refusals = new Refusals(Rolls::busy);
        refusals.outside("25 label", Due.ARGUMENT, NONE, 15, (roll, label) -> roll.rival(0, label));
        refusals.outside("25 label where there is none", Due.ARGUMENT, NONE, 15, (roll, label) -> roll.rival(1, label));
        CountedRoll roll = Rolls.alike(1);
        Due.answers("25 none at first", NONE, () -> roll.rival(0, 15));
        Due.answers("25 the greatest label", 15, () -> roll.rival(0, 0));
        Due.answers("25 the least label", 0, () -> roll.rival(0, NONE));
        Due.answers("25 none again", NONE, () -> roll.rival(0, 1));
    }

    /** "if both are the same" */
    private static void bothTheSame() {
        Refusals refusals = new Refusals(Rolls::busy);
        for (int m : new int[] {0, 3, 5}) {
            refusals.of("5 ahead of itself " + m, Due.ARGUMENT, roll -> roll.ahead(m, m, 0));
            refusals.of("5 ahead of itself, gap -50 " + m, Due.ARGUMENT, roll -> roll.ahead(m, m, -50));
            refusals.of("10 seal of one " + m, Due.ARGUMENT, roll -> roll.seal(m, m));
            refusals.of("11 block of one " + m, Due.ARGUMENT, roll -> roll.block(m, m, true));
            refusals.of("11 unblock of one " + m, Due.ARGUMENT, roll -> roll.block(m, m, false));
            refusals.of("12 weight of one " + m, Due.ARGUMENT, roll -> roll.weight(m, m));
            refusals.of("13 whyNot of one " + m, Due.ARGUMENT, roll -> roll.whyNot(m, m));
            refusals.of("14 join of one " + m, Due.ARGUMENT, roll -> roll.join(m, m));
            refusals.of("21 kin of one " + m, Due.ARGUMENT, roll -> roll.kin(m, m));
        }
    }

    private static void bothTheSamePosts() {
        Refusals refusals = new Refusals(Rolls::busy);
        for (int p : new int[] {0, 3, 7}) {
            refusals.of("4 bar of one " + p, Due.ARGUMENT, roll -> roll.bar(p, p, true));
            refusals.of("4 unbar of one " + p, Due.ARGUMENT, roll -> roll.bar(p, p, false));
        }
    }

    /** "if mentions has others than there are" */
    private static void ofMentionsByBits() {
        Refusals six = new Refusals(Rolls::busy);
        int[] others = {1 << 6, 1 << 6 | 1, 1 << 15, 1 << 16, 1 << 30, 1 << 31, 1 << 31 | 1, 3 << 5, -1};
        for (int mentions : others) {
            six.of("23 of six mentions, " + mentions, Due.ARGUMENT, roll -> roll.best(mentions));
            six.of("24 of six mentions, " + mentions, Due.ARGUMENT, roll -> roll.bestAnew(mentions));
        }
        Refusals full = new Refusals(() -> Rolls.alike(16));
        for (int mentions : new int[] {1 << 16, 1 << 16 | 1, 1 << 17, 1 << 30, 1 << 31, 1 << 31 | 1}) {
            full.of("23 of 16 mentions, " + mentions, Due.ARGUMENT, roll -> roll.best(mentions));
            full.of("24 of 16 mentions, " + mentions, Due.ARGUMENT, roll -> roll.bestAnew(mentions));
        }
        for (int count = 1; count <= 16; count++) {
            int last = 1 << count - 1;
            CountedRoll roll = Rolls.alike(count);
            Due.answers("23 the last one of " + count, 0, () -> roll.best(last));
            Due.answers("24 the last one of " + count, 0, () -> roll.bestAnew(last));
            Due.answers("23 one beyond " + count, Due.ARGUMENT, () -> roll.best(last << 1));
            Due.answers("24 one beyond " + count, Due.ARGUMENT, () -> roll.bestAnew(last << 1));
        }
    }

    /** "or more than 6" */
    private static void atMostSix() {
        Refusals full = new Refusals(() -> Rolls.alike(16));
        for (int mentions : new int[] {127, 127 << 9, 0xFFFF, 0x5555, 0x7FFF, 0x80FC | 2}) {
            full.of("23 more than six, " + mentions, Due.ARGUMENT, roll -> roll.best(mentions));
            full.of("24 more than six, " + mentions, Due.ARGUMENT, roll -> roll.bestAnew(mentions));
        }
        CountedRoll roll = Rolls.alike(16);
        for (int mentions : new int[] {63, 63 << 10, 0x5550, 0x8421 | 2 | 4}) {
            Due.answers("23 six, " + mentions, 75, () -> roll.best(mentions));
            Due.answers("24 six, " + mentions, 75, () -> roll.bestAnew(mentions));
        }
    }
}
