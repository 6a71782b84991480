/** The edges of "Years" and of promises 5 to 9, sentence by sentence: each just at the edge, and one year beyond it. */
public final class YearEdgesTest {
    private static final int NONE = OfficeholdersRoll.NONE;

    public static void main(String[] args) {
        yearsAtFirst();
        yearsOfALateMention();
        atLeastTheGap();
        atLeastANegativeGap();
        gapOfZero();
        gapsAtTheEndsOfAllYears();
        leastGapAtTheEndsOfAllYears();
        circlesOfTwo();
        circlesOfThree();
        circleOfAll();
        refusedByAnotherMention();
        findInOtherYearsToo();
        findAtTheEnds();
        certain();
        moved();
        movedAllAndNone();
        movedThoughNoBoundIsNew();
        movedByAhead();
        wouldMoveKeepsAll();
        wouldMoveAsFind();
        longestChainAtTheEdge();
        longestChainBackwards();
        longestChainFromBehind();
        longestChainOfLeastGaps();
        anewAtEachEdge();
        Due.end();
    }

    private static void years(String what, CountedRoll roll, int mention, int first, int last) {
        Due.answers("8 first, " + what, first, () -> roll.year(mention, false));
        Due.answers("8 last, " + what, last, () -> roll.year(mention, true));
        Due.answers("9 first, " + what, first, () -> roll.yearAnew(mention, false));
        Due.answers("9 last, " + what, last, () -> roll.yearAnew(mention, true));
    }

    /** "YEARS, from one to another one, both with them, 0 to 999 at first" */
    private static void yearsAtFirst() {
        CountedRoll roll = Rolls.alike(16);
        for (int mention = 0; mention < 16; mention++) {
            years("at first", roll, mention, 0, 999);
        }
    }

    private static void yearsOfALateMention() {
        CountedRoll roll = Rolls.alike(2);
        roll.ahead(0, 1, 50);
        roll.find(0, 300, 400);
        roll.mention(0, 0, 0, 0);
        years("told behind finds", roll, 2, 0, 999);
        Due.answers("6 moves it alone", 1, () -> roll.find(2, 999, 999));
        years("not moved", roll, 1, 350, 999);
    }

    /** "the year of the latter is at least the year of the former and the gap, together" */
    private static void atLeastTheGap() {
        CountedRoll roll = Rolls.alike(2);
        roll.find(0, 100, 100);
        Due.answers("5 moves the latter", 1, () -> roll.ahead(0, 1, 7));
        years("at least", roll, 1, 107, 999);
        Due.refuses("6 one year below", Due.STATE, roll, r -> r.find(1, 0, 106));
        Due.answers("7 one year below", NONE, () -> roll.wouldMove(1, 0, 106));
        Due.answers("6 just the gap", 1, () -> roll.find(1, 0, 107));
        years("just the gap", roll, 1, 107, 107);
        years("the former stays", roll, 0, 100, 100);
    }

    private static void atLeastANegativeGap() {
        CountedRoll roll = Rolls.alike(2);
        roll.find(0, 100, 100);
        Due.answers("5 moves the latter", 1, () -> roll.ahead(0, 1, -7));
        years("at least", roll, 1, 93, 999);
        Due.refuses("6 one year below", Due.STATE, roll, r -> r.find(1, 0, 92));
        Due.answers("7 just the gap", 1, () -> roll.wouldMove(1, 0, 93));
        Due.answers("6 just the gap", 1, () -> roll.find(1, 93, 93));
        years("just the gap", roll, 1, 93, 93);
    }

    private static void gapOfZero() {
        CountedRoll roll = Rolls.alike(2);
        Due.answers("5 moves none", 0, () -> roll.ahead(0, 1, 0));
        Due.answers("6 moves both", 2, () -> roll.find(0, 500, 999));
        years("of the same year or later", roll, 1, 500, 999);
        Due.answers("6 moves both", 2, () -> roll.find(1, 0, 500));
        years("of the same year", roll, 0, 500, 500);
        years("of the same year", roll, 1, 500, 500);
        Due.refuses("5 one year later", Due.STATE, roll, r -> r.ahead(0, 1, 1));
        Due.answers("5 of the same year, the other way round", 0, () -> roll.ahead(1, 0, 0));
    }

    /** "gap: -50 to 50", years 0 to 999: the greatest gap just fits, or just does not. */
    private static void gapsAtTheEndsOfAllYears() {
        CountedRoll fits = Rolls.alike(2);
        fits.find(0, 949, 999);
        Due.answers("5 just fits", 2, () -> fits.ahead(0, 1, 50));
        years("the former", fits, 0, 949, 949);
        years("the latter", fits, 1, 999, 999);
        CountedRoll not = Rolls.alike(2);
        not.find(0, 950, 999);
        Due.refuses("5 just does not fit", Due.STATE, not, r -> r.ahead(0, 1, 50));
        Due.answers("5 a gap less by one fits", 2, () -> not.ahead(0, 1, 49));
        years("the former", not, 0, 950, 950);
        CountedRoll low = Rolls.alike(2);
        low.find(1, 0, 49);
        Due.refuses("5 just does not fit at the begin", Due.STATE, low, r -> r.ahead(0, 1, 50));
        Due.answers("5 a gap less by one fits", 2, () -> low.ahead(0, 1, 49));
        years("at the begin", low, 0, 0, 0);
        years("at the begin", low, 1, 49, 49);
    }

    private static void leastGapAtTheEndsOfAllYears() {
        CountedRoll free = Rolls.alike(2);
        Due.answers("5 the least gap moves none", 0, () -> free.ahead(0, 1, -50));
        Due.answers("6 within the gap", 1, () -> free.find(0, 50, 999));
        years("still from 0", free, 1, 0, 999);
        Due.answers("6 one year beyond the gap", 2, () -> free.find(0, 51, 999));
        years("from 1", free, 1, 1, 999);
        CountedRoll fits = Rolls.alike(2);
        fits.find(0, 999, 999);
        fits.find(1, 0, 949);
        Due.answers("5 just fits", 1, () -> fits.ahead(0, 1, -50));
        years("the latter", fits, 1, 949, 949);
        CountedRoll not = Rolls.alike(2);
        not.find(0, 999, 999);
        not.find(1, 0, 948);
        Due.refuses("5 just does not fit", Due.STATE, not, r -> r.ahead(0, 1, -50));
    }

    /** "There is always a dating: what would leave none is refused." */
    private static void circlesOfTwo() {
        for (int gap : new int[] {-50, -1, 0, 1, 49, 50}) {
            CountedRoll roll = Rolls.alike(2);
            roll.ahead(0, 1, gap);
            if (gap > -50) {
                Due.refuses("5 a circle of 1", Due.STATE, roll, r -> r.ahead(1, 0, 1 - gap));
            }
            Due.answers("5 a circle of 0", gap < 0 ? 2 : 0, () -> roll.ahead(1, 0, -gap));
            years("a circle of 0", roll, 0, Math.max(0, -gap), Math.min(999, 999 - gap));
            roll.find(0, 500, 500);
            years("one certain makes the other one so", roll, 1, 500 + gap, 500 + gap);
        }
        CountedRoll roll = Rolls.alike(2);
        roll.ahead(0, 1, -50);
        Due.answers("5 the widest circle", 2, () -> roll.ahead(1, 0, 50));
        years("it is one of 0", roll, 0, 50, 999);
    }

    private static void circlesOfThree() {
        CountedRoll roll = Rolls.alike(3);
        roll.ahead(0, 1, 25);
        roll.ahead(1, 2, 25);
        Due.refuses("5 a circle of 1", Due.STATE, roll, r -> r.ahead(2, 0, -49));
        Due.answers("5 a circle of 0", 0, () -> roll.ahead(2, 0, -50));
        Due.answers("6 all go together", 3, () -> roll.find(1, 25, 25));
        years("the first one", roll, 0, 0, 0);
        years("the last one", roll, 2, 50, 50);
        CountedRoll wide = Rolls.alike(3);
        wide.ahead(0, 1, 25);
        wide.ahead(1, 2, 26);
        Due.refuses("5 no gap is small enough", Due.STATE, wide, r -> r.ahead(2, 0, -50));
    }

    private static void circleOfAll() {
        CountedRoll roll = Rolls.alike(16);
        for (int k = 1; k < 16; k++) {
            roll.ahead(k - 1, k, k == 15 ? 8 : 3);
        }
        Due.refuses("5 a circle of all, of 1", Due.STATE, roll, r -> r.ahead(15, 0, -49));
        Due.answers("5 a circle of all, of 0", 0, () -> roll.ahead(15, 0, -50));
        Due.answers("6 all go together", 16, () -> roll.find(15, 999, 999));
        years("the first one", roll, 0, 949, 949);
        years("the middle", roll, 8, 973, 973);
    }

    private static void refusedByAnotherMention() {
        CountedRoll roll = Rolls.alike(3);
        roll.ahead(0, 1, 10);
        roll.ahead(1, 2, 10);
        roll.find(2, 0, 120);
        Due.refuses("6 one year beyond what the last one leaves", Due.STATE, roll, r -> r.find(0, 101, 999));
        Due.answers("7 one year beyond what the last one leaves", NONE, () -> roll.wouldMove(0, 101, 999));
        Due.answers("7 just what it leaves", 3, () -> roll.wouldMove(0, 100, 999));
        Due.refuses("6 one year ahead of what the first one leaves", Due.STATE, roll, r -> r.find(2, 0, 19));
        Due.answers("6 just what it leaves", 3, () -> roll.find(2, 0, 20));
        years("all certain", roll, 0, 0, 0);
        years("all certain", roll, 1, 10, 10);
        years("all certain", roll, 2, 20, 20);
    }

    /** "A find narrows the YEARS of a MENTION to those that are in other ones, too." */
    private static void findInOtherYearsToo() {
        CountedRoll roll = Rolls.alike(1);
        roll.find(0, 100, 200);
        Due.refuses("6 ends a year ahead", Due.STATE, roll, r -> r.find(0, 0, 99));
        Due.refuses("6 begins a year behind", Due.STATE, roll, r -> r.find(0, 201, 999));
        Due.answers("7 ends a year ahead", NONE, () -> roll.wouldMove(0, 99, 99));
        Due.answers("7 begins a year behind", NONE, () -> roll.wouldMove(0, 201, 201));
        Due.answers("6 the same years", 0, () -> roll.find(0, 100, 200));
        Due.answers("6 wider by one", 0, () -> roll.find(0, 99, 201));
        Due.answers("6 all years", 0, () -> roll.find(0, 0, 999));
        years("not widened", roll, 0, 100, 200);
        Due.answers("7 ends with the first year", 1, () -> roll.wouldMove(0, 0, 100));
        Due.answers("7 begins with the last year", 1, () -> roll.wouldMove(0, 200, 999));
        Due.answers("6 narrower by one", 1, () -> roll.find(0, 101, 199));
        years("narrower by one", roll, 0, 101, 199);
        Due.answers("6 begins with the last year", 1, () -> roll.find(0, 199, 999));
        years("one year left", roll, 0, 199, 199);
    }

    /** "low: 0 to 999", "high: low to 999" */
    private static void findAtTheEnds() {
        CountedRoll roll = Rolls.alike(3);
        Due.answers("6 the first of all years", 1, () -> roll.find(0, 0, 0));
        years("the first of all years", roll, 0, 0, 0);
        Due.answers("6 the last of all years", 1, () -> roll.find(1, 999, 999));
        years("the last of all years", roll, 1, 999, 999);
        Due.answers("6 all years", 0, () -> roll.find(2, 0, 999));
        years("all years", roll, 2, 0, 999);
        Due.answers("6 all but the first", 1, () -> roll.find(2, 1, 999));
        Due.answers("6 all but the last", 1, () -> roll.find(2, 0, 998));
        years("all but the first and the last", roll, 2, 1, 998);
    }

    /** "It is CERTAIN, if these are the same": it shows in what is barred. */
    private static void certain() {
        CountedRoll roll = new CountedRoll();
        roll.mention(0, 0, 0, 0);
        roll.mention(0, 0, 0, 1);
        roll.bar(0, 1, true);
        roll.find(0, 60, 60);
        roll.find(1, 60, 61);
        Due.answers("13 two years are not certain", 0, () -> roll.whyNot(0, 1));
        roll.find(1, 0, 60);
        Due.answers("13 one year is", 4, () -> roll.whyNot(0, 1));
        CountedRoll bound = new CountedRoll();
        bound.mention(0, 0, 0, 0);
        bound.mention(0, 0, 0, 1);
        bound.bar(0, 1, true);
        bound.find(0, 60, 60);
        bound.ahead(0, 1, 0);
        Due.answers("13 bound on one side", 0, () -> bound.whyNot(0, 1));
        bound.ahead(1, 0, 0);
        Due.answers("13 certain without a find of its own", 4, () -> bound.whyNot(0, 1));
    }

    /** "A MENTION is moved by something, if its first or last year is another one behind it." */
    private static void moved() {
        CountedRoll roll = Rolls.alike(2);
        Due.answers("6 by the first year", 1, () -> roll.find(0, 1, 999));
        Due.answers("6 by the last year", 1, () -> roll.find(0, 1, 998));
        Due.answers("6 by both, counted once", 1, () -> roll.find(0, 2, 997));
        Due.answers("6 by neither", 0, () -> roll.find(0, 2, 997));
        roll.ahead(0, 1, 10);
        Due.answers("6 the other one alone", 1, () -> roll.find(1, 13, 999));
        Due.answers("6 both, by first years", 2, () -> roll.find(0, 5, 999));
        Due.answers("6 both, by last years", 2, () -> roll.find(1, 0, 990));
        years("the former", roll, 0, 5, 980);
        years("the latter", roll, 1, 15, 990);
        Due.answers("7 both, by both", 2, () -> roll.wouldMove(0, 6, 979));
        Due.answers("7 the former alone, by its last year", 1, () -> roll.wouldMove(0, 5, 979));
    }

    private static void movedAllAndNone() {
        CountedRoll roll = Rolls.alike(16);
        for (int k = 1; k < 16; k++) {
            roll.ahead(0, k, 0);
        }
        Due.answers("7 all 16", 16, () -> roll.wouldMove(0, 1, 999));
        Due.answers("7 one of 16", 1, () -> roll.wouldMove(15, 1, 999));
        Due.answers("7 two of 16", 2, () -> roll.wouldMove(15, 0, 998));
        Due.answers("7 none of 16", 0, () -> roll.wouldMove(0, 0, 999));
        Due.answers("6 all 16", 16, () -> roll.find(0, 999, 999));
        Due.answers("6 none of 16", 0, () -> roll.find(7, 999, 999));
    }

    /** What is told within first and last years narrows YEARS, but moves nothing, then or later. */
    private static void movedThoughNoBoundIsNew() {
        CountedRoll roll = Rolls.alike(2);
        roll.find(0, 100, 100);
        roll.ahead(0, 1, 50);
        Due.answers("6 below the first year", 0, () -> roll.find(1, 149, 999));
        Due.answers("6 just the first year", 0, () -> roll.find(1, 150, 999));
        Due.answers("6 one year behind it", 1, () -> roll.find(1, 151, 999));
        years("one year behind it", roll, 1, 151, 999);
        Due.answers("5 a gap that is less", 0, () -> roll.ahead(0, 1, 49));
        Due.answers("5 a gap up to the first year", 0, () -> roll.ahead(0, 1, 50));
        years("as it was", roll, 1, 151, 999);
    }

    private static void movedByAhead() {
        CountedRoll roll = Rolls.alike(4);
        Due.answers("5 both, by a gap of 1", 2, () -> roll.ahead(0, 1, 1));
        Due.answers("5 none, by a gap of 1 told already", 0, () -> roll.ahead(0, 1, 1));
        Due.answers("5 one more, and those ahead", 3, () -> roll.ahead(1, 2, 1));
        Due.answers("5 none, by a way that is as long", 0, () -> roll.ahead(0, 2, 2));
        Due.answers("5 two, by a way that is longer by one", 2, () -> roll.ahead(0, 2, 3));
        years("the end", roll, 2, 3, 999);
        years("the middle stays", roll, 1, 1, 998);
        years("the begin", roll, 0, 0, 996);
        years("bound to nothing", roll, 3, 0, 999);
    }

    /** "Returns how many MENTIONS would be moved by a find; all stays as it is." */
    private static void wouldMoveKeepsAll() {
        CountedRoll roll = Rolls.busy();
        String before = Look.at(roll);
        Due.answers("7 some", 3, () -> roll.wouldMove(0, 190, 200));
        Due.is("7 some, all stays", before, Look.at(roll));
        Due.answers("7 itself", 1, () -> roll.wouldMove(4, 0, 0));
        Due.is("7 itself, all stays", before, Look.at(roll));
        Due.answers("7 none", 0, () -> roll.wouldMove(5, 0, 999));
        Due.is("7 none, all stays", before, Look.at(roll));
        Due.answers("7 no dating", NONE, () -> roll.wouldMove(3, 231, 999));
        Due.is("7 no dating, all stays", before, Look.at(roll));
    }

    private static void wouldMoveAsFind() {
        int[][] finds = {{0, 100, 200}, {0, 101, 200}, {0, 200, 999}, {0, 201, 999}, {0, 0, 100}, {1, 0, 110},
            {1, 0, 109}, {1, 235, 999}, {1, 236, 999}, {3, 230, 230}, {3, 231, 231}, {3, 0, 105},
            {3, 0, 104}, {5, 7, 7}};
        for (int[] find : finds) {
            int would = Rolls.busy().wouldMove(find[0], find[1], find[2]);
            String what = "6 as would move, " + find[0] + " " + find[1] + " " + find[2];
            Due.answers(what, would == NONE ? Due.STATE : would,
                    () -> Rolls.busy().find(find[0], find[1], find[2]));
        }
    }

    private static void longestChainAtTheEdge() {
        CountedRoll roll = Rolls.alike(16);
        for (int k = 1; k < 16; k++) {
            roll.ahead(k - 1, k, 50);
        }
        years("the end", roll, 15, 750, 999);
        years("the begin", roll, 0, 0, 249);
        Due.answers("7 one year too late", NONE, () -> roll.wouldMove(0, 250, 999));
        Due.answers("7 one year too early", NONE, () -> roll.wouldMove(15, 0, 749));
        Due.answers("7 just early enough", 16, () -> roll.wouldMove(15, 0, 750));
        Due.answers("6 just late enough", 16, () -> roll.find(0, 249, 999));
        for (int k = 0; k < 16; k++) {
            years("each certain", roll, k, 249 + 50 * k, 249 + 50 * k);
        }
    }

    /** The same with the numbers the other way round. */
    private static void longestChainBackwards() {
        CountedRoll roll = Rolls.alike(16);
        for (int k = 15; k > 0; k--) {
            roll.ahead(k, k - 1, 50);
        }
        years("the end", roll, 0, 750, 999);
        years("the begin", roll, 15, 0, 249);
        Due.answers("7 one year too late", NONE, () -> roll.wouldMove(15, 250, 999));
        Due.answers("6 just early enough", 16, () -> roll.find(0, 0, 750));
        for (int k = 0; k < 16; k++) {
            years("each certain", roll, k, 750 - 50 * k, 750 - 50 * k);
        }
    }

    /** The same told from its end on. */
    private static void longestChainFromBehind() {
        CountedRoll roll = Rolls.alike(16);
        for (int k = 15; k > 0; k--) {
            int latter = k;
            Due.answers("5 moves all that is told", k == 15 ? 2 : 17 - k, () -> roll.ahead(latter - 1, latter, 50));
        }
        Due.answers("7 the first years alone", 16, () -> roll.wouldMove(0, 1, 999));
        Due.answers("6 just late enough", 16, () -> roll.find(0, 249, 999));
        for (int k = 0; k < 16; k++) {
            years("each certain", roll, k, 249 + 50 * k, 249 + 50 * k);
        }
    }

    private static void longestChainOfLeastGaps() {
        CountedRoll roll = Rolls.alike(16);
        for (int k = 1; k < 16; k++) {
            Due.answers("5 moves none", 0, () -> roll.ahead(0, 15, -50));
            int latter = k;
            Due.answers("5 moves none", 0, () -> roll.ahead(latter - 1, latter, -50));
        }
        Due.answers("6 far ahead", 16, () -> roll.find(0, 999, 999));
        years("the end, by the shorter way", roll, 15, 949, 999);
        years("the middle, by its own way", roll, 8, 599, 999);
    }

    /** "found by the greatest gaps of all ways from one MENTION to another one" */
    private static void anewAtEachEdge() {
        CountedRoll roll = Rolls.alike(4);
        roll.ahead(0, 1, 20);
        roll.ahead(1, 3, 30);
        roll.ahead(0, 2, 24);
        roll.ahead(2, 3, 25);
        years("the greater of two ways", roll, 3, 50, 999);
        years("the greater of two ways back", roll, 0, 0, 949);
        roll.ahead(2, 3, 27);
        years("the other way is greater by one", roll, 3, 51, 999);
        years("the other way back is greater by one", roll, 0, 0, 948);
        roll.find(3, 0, 51);
        years("no way is longer", roll, 0, 0, 0);
        years("on the longest way", roll, 2, 24, 24);
        years("on the other way", roll, 1, 20, 21);
    }
}
