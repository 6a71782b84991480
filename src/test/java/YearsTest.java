/** Promises 5 to 9: ahead, find, wouldMove, year, yearAnew. */
public final class YearsTest {
    private static final int NONE = OfficeholdersRoll.NONE;

    public static void main(String[] args) {
        aheadMoves();
        aheadChains();
        aheadBackwards();
        aheadCircles();
        aheadLongCircle();
        aheadRefused();
        aheadToldOften();
        findNarrows();
        findMovesMany();
        findRefused();
        wouldMoveKeepsAll();
        wouldMoveRefused();
        yearRefused();
        longestChain();
        lastYearsAlone();
        anewWithoutTheOther();
        allDatingsOfThree();
        Due.end();
    }

    private static void years(String what, CountedRoll roll, int mention, int first, int last) {
        Due.answers(what + ": year first", first, () -> roll.year(mention, false));
        Due.answers(what + ": year last", last, () -> roll.year(mention, true));
        Due.answers(what + ": yearAnew first", first, () -> roll.yearAnew(mention, false));
        Due.answers(what + ": yearAnew last", last, () -> roll.yearAnew(mention, true));
    }

    /** 5 */
    private static void aheadMoves() {
        CountedRoll roll = Rolls.alike(3);
        Due.answers("5 gap 50", 2, () -> roll.ahead(0, 1, 50));
        years("5 former", roll, 0, 0, 949);
        years("5 latter", roll, 1, 50, 999);
        years("5 neither", roll, 2, 0, 999);
        Due.answers("5 again", 0, () -> roll.ahead(0, 1, 50));
        Due.answers("5 less", 0, () -> roll.ahead(0, 1, 49));
        years("5 the greater gap stays", roll, 1, 50, 999);
        Due.answers("5 gap 0", 0, () -> roll.ahead(2, 0, -50));
        Due.answers("5 gap 0 to a later one", 1, () -> roll.ahead(1, 2, 0));
        years("5 gap 0", roll, 2, 50, 999);
    }

    private static void aheadChains() {
        CountedRoll roll = Rolls.alike(4);
        roll.ahead(2, 3, 30);
        roll.ahead(1, 2, 20);
        Due.answers("5 a chain told from behind moves all", 4, () -> roll.ahead(0, 1, 10));
        years("5 chain 0", roll, 0, 0, 939);
        years("5 chain 1", roll, 1, 10, 949);
        years("5 chain 2", roll, 2, 30, 969);
        years("5 chain 3", roll, 3, 60, 999);
        Due.answers("5 a way round that is shorter", 0, () -> roll.ahead(0, 3, 50));
        Due.answers("5 a way round that is as long", 0, () -> roll.ahead(1, 3, 50));
    }

    private static void aheadBackwards() {
        CountedRoll roll = Rolls.alike(2);
        Due.answers("5 gap -50 binds nothing yet", 0, () -> roll.ahead(0, 1, -50));
        Due.answers("6 it moves the latter", 2, () -> roll.find(0, 500, 999));
        years("5 gap -50", roll, 1, 450, 999);
        Due.answers("6 it moves the former", 2, () -> roll.find(1, 0, 600));
        years("5 gap -50", roll, 0, 500, 650);
    }

    private static void aheadCircles() {
        CountedRoll roll = Rolls.alike(2);
        roll.ahead(0, 1, 7);
        Due.refuses("5 a circle above 0", Due.STATE, roll, () -> roll.ahead(1, 0, -6));
        Due.answers("5 a circle of 0", 0, () -> roll.ahead(1, 0, -7));
        Due.answers("6 both go together", 2, () -> roll.find(1, 20, 21));
        years("5 a circle of 0", roll, 0, 13, 14);
        Due.refuses("5 a circle of two above 0", Due.STATE, roll, () -> roll.ahead(0, 1, 8));
    }

    private static void aheadLongCircle() {
        CountedRoll roll = Rolls.alike(16);
        for (int k = 15; k > 0; k--) {
            roll.ahead(k - 1, k, 1);
        }
        Due.answers("5 a long circle above 0", Due.STATE, () -> roll.ahead(15, 0, -14));
        years("5 the refused one changed nothing", roll, 15, 15, 999);
        Due.answers("5 a long circle of 0", 0, () -> roll.ahead(15, 0, -15));
        years("5 a long circle of 0", roll, 7, 7, 991);
    }

    private static void aheadRefused() {
        CountedRoll roll = Rolls.alike(2);
        roll.find(0, 100, 200);
        Due.refuses("5 no mention 2", Due.INDEX, roll, () -> roll.ahead(0, 2, 1));
        Due.refuses("5 no mention -1", Due.INDEX, roll, () -> roll.ahead(-1, 0, 1));
        Due.refuses("5 no mention, gap too great", Due.INDEX, roll, () -> roll.ahead(0, 2, 51));
        Due.refuses("5 no mention, both the same", Due.INDEX, roll, () -> roll.ahead(2, 2, 1));
        Due.refuses("5 both the same", Due.ARGUMENT, roll, () -> roll.ahead(1, 1, 0));
        Due.refuses("5 gap 51", Due.ARGUMENT, roll, () -> roll.ahead(0, 1, 51));
        Due.refuses("5 gap -51", Due.ARGUMENT, roll, () -> roll.ahead(0, 1, -51));
        Due.refuses("5 gap least", Due.ARGUMENT, roll, () -> roll.ahead(0, 1, Integer.MIN_VALUE));
        Due.answers("5 gap -50: the former is bounded by the latter's last year", 1, () -> roll.ahead(1, 0, -50));
        years("5 gap -50", roll, 1, 0, 250);
        Due.answers("5 gap 50", 1, () -> roll.ahead(0, 1, 50));
        years("5 by the finds", roll, 1, 150, 250);
        Due.answers("6 the latter narrowed", 2, () -> roll.find(1, 0, 150));
        years("5 both certain", roll, 0, 100, 100);
    }

    private static void aheadToldOften() {
        CountedRoll roll = Rolls.alike(3);
        for (int k = 0; k < 20; k++) {
            roll.ahead(0, 1, 0);
            Due.answers("5 refused is not told", Due.STATE, () -> roll.ahead(1, 0, 1));
            if (k < 19) {
                roll.ahead(2, 1, -1 - k);
            }
        }
        Due.answers("5 the 40th of any", 3, () -> roll.ahead(1, 2, 1));
        Due.refuses("5 the 41st", Due.STATE, roll, () -> roll.ahead(0, 2, 0));
        Due.refuses("5 the 41st, told already", Due.STATE, roll, () -> roll.ahead(0, 1, 0));
        Due.refuses("5 gap ahead of the 41st", Due.ARGUMENT, roll, () -> roll.ahead(0, 1, 51));
        Due.refuses("5 mention ahead of the 41st", Due.INDEX, roll, () -> roll.ahead(0, 3, 0));
        years("5 the 40th holds", roll, 2, 1, 999);
        Due.answers("6 finds go on", 3, () -> roll.find(0, 10, 999));
    }

    /** 6 */
    private static void findNarrows() {
        CountedRoll roll = Rolls.alike(2);
        Due.answers("6 all years", 0, () -> roll.find(0, 0, 999));
        Due.answers("6 first only", 1, () -> roll.find(0, 10, 999));
        years("6 first only", roll, 0, 10, 999);
        Due.answers("6 last only", 1, () -> roll.find(0, 0, 20));
        years("6 last only", roll, 0, 10, 20);
        Due.answers("6 wider on both sides", 0, () -> roll.find(0, 9, 21));
        Due.answers("6 overlapping", 1, () -> roll.find(0, 15, 30));
        years("6 overlapping", roll, 0, 15, 20);
        Due.answers("6 one year left", 1, () -> roll.find(0, 20, 999));
        years("6 one year left", roll, 0, 20, 20);
        Due.refuses("6 nothing left above", Due.STATE, roll, () -> roll.find(0, 21, 999));
        Due.refuses("6 nothing left below", Due.STATE, roll, () -> roll.find(0, 0, 19));
        Due.answers("6 the same", 0, () -> roll.find(0, 20, 20));
        years("6 the other one", roll, 1, 0, 999);
        Due.answers("6 the last year", 1, () -> roll.find(1, 999, 999));
        years("6 the last year", roll, 1, 999, 999);
    }

    private static void findMovesMany() {
        CountedRoll roll = Rolls.alike(5);
        roll.ahead(0, 1, 10);
        roll.ahead(0, 2, 5);
        roll.ahead(1, 3, 10);
        roll.ahead(2, 3, 30);
        Due.answers("6 moves those ahead and behind", 4, () -> roll.find(0, 100, 110));
        years("6 by the greater of two ways", roll, 3, 135, 999);
        Due.answers("6 moves back, but for the find's own bound", 3, () -> roll.find(3, 0, 150));
        years("6 not moved", roll, 0, 100, 110);
        years("6 moved back", roll, 1, 110, 140);
        years("6 moved back", roll, 2, 105, 120);
        Due.refuses("6 no dating by another one", Due.STATE, roll, () -> roll.find(1, 141, 999));
        Due.answers("6 at that bound", 2, () -> roll.find(1, 140, 999));
        years("6 certain by it", roll, 3, 150, 150);
    }

    private static void findRefused() {
        CountedRoll roll = Rolls.alike(2);
        Due.refuses("6 no mention 2", Due.INDEX, roll, () -> roll.find(2, 0, 1));
        Due.refuses("6 no mention -1", Due.INDEX, roll, () -> roll.find(-1, 0, 1));
        Due.refuses("6 mention ahead of years", Due.INDEX, roll, () -> roll.find(2, 5, 4));
        Due.refuses("6 low -1", Due.ARGUMENT, roll, () -> roll.find(0, -1, 5));
        Due.refuses("6 low 1000", Due.ARGUMENT, roll, () -> roll.find(0, 1000, 1000));
        Due.refuses("6 high below low", Due.ARGUMENT, roll, () -> roll.find(0, 5, 4));
        Due.refuses("6 high 1000", Due.ARGUMENT, roll, () -> roll.find(0, 0, 1000));
        roll.find(0, 10, 10);
        Due.refuses("6 years ahead of no dating", Due.ARGUMENT, roll, () -> roll.find(0, 9, 8));
    }

    /** 7 */
    private static void wouldMoveKeepsAll() {
        CountedRoll roll = Rolls.alike(3);
        roll.ahead(0, 1, 50);
        String before = Look.at(roll);
        Due.answers("7 both", 2, () -> roll.wouldMove(0, 10, 999));
        Due.answers("7 itself alone", 1, () -> roll.wouldMove(2, 10, 20));
        Due.answers("7 nothing", 0, () -> roll.wouldMove(1, 50, 999));
        Due.answers("7 nothing, wider", 0, () -> roll.wouldMove(1, 0, 999));
        Due.answers("7 by the last year", 2, () -> roll.wouldMove(1, 0, 998));
        Due.answers("7 no dating", NONE, () -> roll.wouldMove(1, 0, 49));
        Due.answers("7 no dating", NONE, () -> roll.wouldMove(0, 950, 999));
        Due.answers("7 just a dating", 2, () -> roll.wouldMove(1, 0, 50));
        Due.is("7 all stays", before, Look.at(roll));
        Due.answers("6 the find moves as many", 2, () -> roll.find(0, 10, 999));
        Due.answers("7 then nothing", 0, () -> roll.wouldMove(0, 10, 999));
        years("7 the years of before are bounds no more than told", roll, 1, 60, 999);
    }

    private static void wouldMoveRefused() {
        CountedRoll roll = Rolls.alike(2);
        Due.refuses("7 no mention 2", Due.INDEX, roll, () -> roll.wouldMove(2, 0, 1));
        Due.refuses("7 no mention -1", Due.INDEX, roll, () -> roll.wouldMove(-1, 5, 4));
        Due.refuses("7 low -1", Due.ARGUMENT, roll, () -> roll.wouldMove(0, -1, 5));
        Due.refuses("7 high below low", Due.ARGUMENT, roll, () -> roll.wouldMove(0, 5, 4));
        Due.refuses("7 high 1000", Due.ARGUMENT, roll, () -> roll.wouldMove(0, 0, 1000));
        Due.refuses("7 low 1000", Due.ARGUMENT, roll, () -> roll.wouldMove(0, 1000, 1001));
    }

    /** 8, 9 */
    private static void yearRefused() {
        CountedRoll roll = Rolls.alike(2);
        Due.refuses("8 no mention 2", Due.INDEX, roll, () -> roll.year(2, true));
        Due.refuses("8 no mention -1", Due.INDEX, roll, () -> roll.year(-1, false));
        Due.refuses("9 no mention 2", Due.INDEX, roll, () -> roll.yearAnew(2, false));
        Due.refuses("9 no mention -1", Due.INDEX, roll, () -> roll.yearAnew(-1, true));
    }

    private static void longestChain() {
        CountedRoll roll = Rolls.alike(16);
        for (int k = 15; k > 0; k--) {
            roll.ahead(k - 1, k, 50);
        }
        years("8 the end of the longest chain", roll, 15, 750, 999);
        years("8 its begin", roll, 0, 0, 249);
        Due.answers("6 all 16 move", 16, () -> roll.find(0, 249, 249));
        for (int k = 0; k < 16; k++) {
            years("8 certain", roll, k, 249 + 50 * k, 249 + 50 * k);
        }
        Due.answers("7 no dating far off", NONE, () -> roll.wouldMove(15, 0, 998));
    }

    /** Told from the front on, last years need a round for each step, while first years need one. */
    private static void lastYearsAlone() {
        CountedRoll roll = Rolls.alike(16);
        for (int k = 1; k < 16; k++) {
            roll.ahead(k - 1, k, 0);
        }
        Due.answers("6 all the last years", 16, () -> roll.find(15, 0, 700));
        Due.answers("6 all the last years but one", 15, () -> roll.find(14, 0, 600));
        for (int k = 0; k < 16; k++) {
            years("8 last years", roll, k, 0, k == 15 ? 700 : 600);
        }
        Due.answers("7 all the first years", 16, () -> roll.wouldMove(0, 1, 999));
    }

    /** 9: each answer is found anew, whatever was asked before. */
    private static void anewWithoutTheOther() {
        CountedRoll roll = Rolls.alike(3);
        roll.ahead(0, 1, 20);
        Due.answers("9 last alone", 979, () -> roll.yearAnew(0, true));
        roll.ahead(1, 2, 30);
        Due.answers("9 last alone", 949, () -> roll.yearAnew(0, true));
        roll.ahead(0, 1, 40);
        Due.answers("9 first alone", 70, () -> roll.yearAnew(2, false));
        Due.answers("5 refused", Due.STATE, () -> roll.ahead(2, 0, 50));
        Due.answers("9 what is refused makes no way", 929, () -> roll.yearAnew(0, true));
        roll.wouldMove(0, 500, 600);
        Due.answers("9 what would be makes no way", 70, () -> roll.yearAnew(2, false));
    }

    /** Three mentions in few years, each dating written out: what is first, last and refused follows from them. */
    private static void allDatingsOfThree() {
        for (int code = 0; code < 7 * 7 * 7 * 7; code++) {
            int[] gaps = {code % 7 - 3, code / 7 % 7 - 3, code / 49 % 7 - 3, code / 343 - 3};
            int[][] told = {{0, 1}, {1, 2}, {2, 0}, {0, 2}};
            CountedRoll roll = Rolls.alike(3);
            int[][] years = {{4, 9}, {5, 8}, {3, 9}};
            for (int m = 0; m < 3; m++) {
                roll.find(m, years[m][0], years[m][1]);
            }
            int[][] gapOf = new int[3][3];
            for (int[] row : gapOf) {
                java.util.Arrays.fill(row, -50);
            }
            for (int k = 0; k < told.length; k++) {
                int[] pair = told[k];
                int gap = gaps[k];
                int kept = gapOf[pair[0]][pair[1]];
                int[] before = bounds(years, gapOf);
                gapOf[pair[0]][pair[1]] = gap;
                int[] behind = bounds(years, gapOf);
                Due.answers("5 as all datings tell, " + code, behind.length == 0 ? Due.STATE : moved(before, behind),
                        () -> roll.ahead(pair[0], pair[1], gap));
                if (behind.length == 0) {
                    gapOf[pair[0]][pair[1]] = kept;
                }
            }
            int[] due = bounds(years, gapOf);
            for (int m = 0; m < 3; m++) {
                years("8 as all datings tell, " + code, roll, m, due[2 * m], due[2 * m + 1]);
            }
        }
    }

    private static Object moved(int[] before, int[] behind) {
        int count = 0;
        for (int m = 0; m < 3; m++) {
            count += before[2 * m] != behind[2 * m] || before[2 * m + 1] != behind[2 * m + 1] ? 1 : 0;
        }
        return count;
    }

    /** First and last years of the three in turn, by trying every dating; empty if there is none. */
    private static int[] bounds(int[][] years, int[][] gapOf) {
        int[] bounds = {1000, -1, 1000, -1, 1000, -1};
        int[] y = new int[3];
        for (y[0] = years[0][0]; y[0] <= years[0][1]; y[0]++) {
            for (y[1] = years[1][0]; y[1] <= years[1][1]; y[1]++) {
                for (y[2] = years[2][0]; y[2] <= years[2][1]; y[2]++) {
                    boolean isDating = true;
                    for (int a = 0; a < 3; a++) {
                        for (int b = 0; b < 3; b++) {
                            isDating &= a == b || y[b] >= y[a] + gapOf[a][b];
                        }
                    }
                    for (int m = 0; m < 3 && isDating; m++) {
                        bounds[2 * m] = Math.min(bounds[2 * m], y[m]);
                        bounds[2 * m + 1] = Math.max(bounds[2 * m + 1], y[m]);
                    }
                }
            }
        }
        return bounds[1] < 0 ? new int[0] : bounds;
    }
}
