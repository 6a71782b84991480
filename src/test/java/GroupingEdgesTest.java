/** The edges of "Best joins, rivals" and of promises 23 to 26, sentence by sentence. */
public final class GroupingEdgesTest {
    private static final int NONE = OfficeholdersRoll.NONE;

    public static void main(String[] args) {
        bestOfNone();
        bestOfOne();
        bestOfTwo();
        bestOfSix();
        bestOfSixAmongAll();
        lessThree();
        worthOverAllPairs();
        rightByBlocks();
        rightByFamilies();
        rightWhateverThePosts();
        personsDoNotMatter();
        bestOfEachShape();
        rivalLabels();
        togetherForTheRival();
        differsEitherWay();
        differsByFewAndAll();
        askedWithoutAnyChange();
        Due.end();
    }

    private static void best(String what, int due, CountedRoll roll, int mentions) {
        Due.answers("23 " + what, due, () -> roll.best(mentions));
        Due.answers("24 " + what, due, () -> roll.bestAnew(mentions));
    }

    private static void bestOfNone() {
        for (int count = 0; count <= 16; count++) {
            best("of none among " + count, 0, Rolls.alike(count), 0);
        }
    }

    /** "a grouping puts each of them into one group, of one or more" */
    private static void bestOfOne() {
        CountedRoll roll = Rolls.alike(16);
        for (int mention = 0; mention < 16; mention++) {
            best("of mention " + mention + " alone", 0, roll, 1 << mention);
        }
    }

    private static void bestOfTwo() {
        CountedRoll roll = Rolls.alike(16);
        roll.seal(15, 0);
        best("the first and the last, sealed", 10, roll, 1 << 15 | 1);
        best("the last two", 5, roll, 3 << 14);
        best("the first two", 5, roll, 3);
        roll.block(14, 15, true);
        best("the last two, blocked", 0, roll, 3 << 14);
    }

    /** "For some MENTIONS, at most 6" */
    private static void bestOfSix() {
        CountedRoll roll = Rolls.alike(7);
        for (int left = 0; left < 7; left++) {
            best("all but " + left, 75, roll, 127 - (1 << left));
        }
        Due.refuses("23 seven", Due.ARGUMENT, roll, r -> r.best(127));
        Due.refuses("24 seven", Due.ARGUMENT, roll, r -> r.bestAnew(127));
        for (int one = 0; one < 6; one++) {
            for (int other = one + 1; other < 6; other++) {
                roll.seal(one, other);
            }
        }
        best("six sealed, the greatest worth there is", 150, roll, 63);
        best("five of them and one that is not", 125, roll, 95);
    }

    private static void bestOfSixAmongAll() {
        CountedRoll roll = new CountedRoll();
        for (int mention = 0; mention < 16; mention++) {
            roll.mention(mention / 2, NONE, mention % 6, NONE);
        }
        for (int mention = 1; mention < 16; mention += 2) {
            roll.seal(mention - 1, mention);
        }
        best("the last six: three pairs of 7 less 3", 12, roll, 63 << 10);
        best("the first six", 12, roll, 63);
        best("one of each pair", 0, roll, 0x555);
        best("two pairs and two others", 8, roll, 3 << 14 | 3 << 6 | 1 << 2 | 1);
    }

    /** "of their weight less 3": a weight of 3 is worth nothing, a lesser one costs. */
    private static void lessThree() {
        int[][] told = {{1, NONE, 1, 1, 0}, {1, NONE, 0, 1, 0}, {0, NONE, 1, 1, 0}, {0, NONE, 0, 1, 0},
            {0, NONE, 1, 0, 1}, {0, 0, 1, 1, 2}, {0, 0, 0, 1, 3}, {1, 0, 0, 0, 3}, {0, 0, 1, 0, 4}, {0, 0, 0, 0, 5}};
        for (int[] m : told) {
            CountedRoll roll = Rolls.alike(1);
            roll.mention(m[0], m[1], m[2], m[3]);
            best("of weight " + roll.weight(0, 1), m[4], roll, 3);
            roll.seal(0, 1);
            best("sealed, of weight " + roll.weight(0, 1), roll.weight(0, 1) - 3, roll, 3);
        }
    }

    /** "the sum, over all pairs that are in one group" */
    private static void worthOverAllPairs() {
        CountedRoll roll = new CountedRoll();
        for (int mention = 0; mention < 3; mention++) {
            roll.mention(mention, NONE, mention, mention);
        }
        roll.seal(0, 1);
        best("a pair worth 2", 2, roll, 7);
        roll.seal(1, 2);
        best("two pairs of 2, the third one costs 3", 2, roll, 7);
        best("each pair alone", 2, roll, 6);
        best("the pair that costs is left apart", 0, roll, 5);
        roll.seal(0, 2);
        best("all three", 6, roll, 7);
        CountedRoll place = new CountedRoll();
        place.mention(0, NONE, 0, 0);
        place.mention(1, NONE, 1, 1);
        place.mention(2, NONE, 0, 2);
        place.seal(0, 1);
        place.seal(1, 2);
        best("two pairs of 2, the third one costs 2", 2, place, 7);
        CountedRoll name = new CountedRoll();
        name.mention(0, NONE, 0, 0);
        name.mention(1, NONE, 1, 1);
        name.mention(0, NONE, 2, 2);
        name.seal(0, 1);
        name.seal(1, 2);
        best("two pairs of 2, the third one costs 1", 3, name, 7);
    }

    /** "It is right, if no two of a group are UNLIKE" - "if they are BLOCKED" */
    private static void rightByBlocks() {
        CountedRoll roll = Rolls.alike(6);
        best("six, none blocked", 75, roll, 63);
        for (int k = 1; k <= 5; k++) {
            roll.block(0, k, true);
            best("six, " + k + " of them blocked with the first one", 50, roll, 63);
        }
        roll.block(5, 4, true);
        best("six, of five the last two apart", 30, roll, 63);
        roll.block(4, 5, false);
        roll.block(5, 0, false);
        best("six, the last one with either", 50, roll, 63);
        best("the first and the last", 5, roll, 33);
        best("the first and a blocked one", 0, roll, 3);
    }

    /** "if the FAMILIES of both are known and not the same" */
    private static void rightByFamilies() {
        CountedRoll roll = new CountedRoll();
        roll.mention(0, 0, 0, 0);
        roll.mention(0, 9, 0, 0);
        roll.mention(0, NONE, 0, 0);
        roll.mention(0, NONE, 0, 0);
        roll.mention(0, 0, 0, 0);
        roll.mention(0, 9, 0, 0);
        best("of families 0 and 9", 0, roll, 3);
        best("of family 0 and of none that is known", 2, roll, 5);
        best("of none that is known", 2, roll, 12);
        best("of family 0", 5, roll, 17);
        best("of 0, 9 and none: with either", 2, roll, 7);
        best("of 0, 9 and two of none: with one of both", 6, roll, 15);
        best("two of each: the two of none with one of both", 5 + 5 + 2 + 8, roll, 63);
        roll.seal(0, 1);
        best("of families 0 and 9, sealed", 0, roll, 3);
    }

    /** UNLIKE is not told by what is barred, nor by persons. */
    private static void rightWhateverThePosts() {
        CountedRoll roll = new CountedRoll();
        roll.mention(0, 0, 0, 0);
        roll.mention(0, 0, 0, 1);
        roll.bar(0, 1, true);
        roll.find(0, 5, 5);
        roll.find(1, 5, 5);
        Due.answers("13 they cannot be joined", 4, () -> roll.whyNot(0, 1));
        best("barred", 3, roll, 3);
    }

    /** "to which PERSONS they belong does not matter" */
    private static void personsDoNotMatter() {
        CountedRoll roll = Rolls.alike(4);
        roll.join(0, 1);
        best("two joined", 30, roll, 15);
        roll.block(0, 1, true);
        best("joined, but blocked", 15, roll, 15);
        best("joined, but blocked, alone", 0, roll, 3);
        roll.join(2, 3);
        roll.split(0);
        best("split", 15, roll, 15);
        roll.block(1, 0, false);
        best("no longer blocked", 30, roll, 15);
    }

    /** Six mentions in groups of each shape there is, where all pairs across groups are blocked. */
    private static void bestOfEachShape() {
        int[][] shapes = {{6}, {5, 1}, {4, 2}, {4, 1, 1}, {3, 3}, {3, 2, 1}, {3, 1, 1, 1}, {2, 2, 2}, {2, 2, 1, 1},
            {2, 1, 1, 1, 1}, {1, 1, 1, 1, 1, 1}};
        for (int[] shape : shapes) {
            CountedRoll roll = Rolls.alike(6);
            int[] group = new int[6];
            int at = 0;
            int due = 0;
            for (int g = 0; g < shape.length; g++) {
                due += shape[g] * (shape[g] - 1) / 2 * 5;
                for (int k = 0; k < shape[g]; k++) {
                    // so that no group is a row of numbers
                    group[at++ * 5 % 6] = g;
                }
            }
            for (int one = 0; one < 6; one++) {
                for (int other = one + 1; other < 6; other++) {
                    roll.block(one, other, group[one] != group[other]);
                }
            }
            best("groups of " + java.util.Arrays.toString(shape), due, roll, 63);
        }
    }

    /** "labels, 0 to 15, or none, as at first" */
    private static void rivalLabels() {
        CountedRoll roll = Rolls.alike(16);
        for (int mention = 0; mention < 16; mention++) {
            int m = mention;
            Due.answers("25 none at first", NONE, () -> roll.rival(m, m));
        }
        for (int mention = 0; mention < 16; mention++) {
            int m = mention;
            Due.answers("25 each its own", m, () -> roll.rival(m, 15 - m));
            Due.answers("25 the same again", 15 - m, () -> roll.rival(m, 15 - m));
            Due.answers("25 taken back", 15 - m, () -> roll.rival(m, NONE));
            Due.answers("25 taken back already", NONE, () -> roll.rival(m, NONE));
        }
    }

    /** "Two MENTIONS are together for the rival, if both have a label, the same one." */
    private static void togetherForTheRival() {
        CountedRoll roll = Rolls.alike(2);
        Due.answers("26 both without a label", 0, roll::differ);
        roll.rival(0, 0);
        Due.answers("26 one with label 0", 0, roll::differ);
        roll.rival(1, 15);
        Due.answers("26 labels 0 and 15", 0, roll::differ);
        roll.rival(1, 1);
        Due.answers("26 labels 0 and 1", 0, roll::differ);
        roll.rival(1, 0);
        Due.answers("26 both with label 0", 1, roll::differ);
        roll.rival(0, 15);
        roll.rival(1, 15);
        Due.answers("26 both with label 15", 1, roll::differ);
        roll.rival(0, NONE);
        Due.answers("26 one taken back", 0, roll::differ);
        roll.rival(1, NONE);
        Due.answers("26 both taken back", 0, roll::differ);
    }

    /** "belong to one PERSON, and are not together for the rival, or the other way round" */
    private static void differsEitherWay() {
        CountedRoll roll = Rolls.alike(2);
        roll.join(0, 1);
        Due.answers("26 one person, no labels", 1, roll::differ);
        roll.rival(0, 3);
        Due.answers("26 one person, one label", 1, roll::differ);
        roll.rival(1, 4);
        Due.answers("26 one person, other labels", 1, roll::differ);
        roll.rival(1, 3);
        Due.answers("26 one person, one label of both", 0, roll::differ);
        roll.split(1);
        Due.answers("26 two persons, one label of both", 1, roll::differ);
        roll.rival(0, NONE);
        Due.answers("26 two persons, one label", 0, roll::differ);
    }

    private static void differsByFewAndAll() {
        Due.answers("26 of none", 0, () -> new CountedRoll().differ());
        CountedRoll one = Rolls.alike(1);
        one.rival(0, 0);
        Due.answers("26 of one", 0, one::differ);
        CountedRoll roll = Rolls.alike(16);
        for (int m = 1; m < 16; m++) {
            roll.join(0, m);
        }
        Due.answers("26 all pairs, one person", 120, roll::differ);
        for (int m = 0; m < 16; m++) {
            roll.rival(m, 15);
        }
        Due.answers("26 no pair", 0, roll::differ);
        roll.rival(15, NONE);
        Due.answers("26 the pairs of the last one", 15, roll::differ);
        roll.split(15);
        Due.answers("26 no pair, the last one split off", 0, roll::differ);
        roll.split(0);
        Due.answers("26 the pairs of the first one with those left", 14, roll::differ);
    }

    private static void askedWithoutAnyChange() {
        CountedRoll roll = Rolls.busy();
        String before = Look.at(roll);
        roll.best(63);
        roll.bestAnew(63);
        roll.differ();
        Due.is("23, 24, 26 nothing is changed", before, Look.at(roll));
    }
}
