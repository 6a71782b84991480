import java.util.function.Supplier;

/** A roll full of mentions, of persons, of tellings, of calls: the last one that is taken, and the next one. */
public final class FullRollTest {
    private static final int NONE = OfficeholdersRoll.NONE;

    public static void main(String[] args) {
        sixteenMentions();
        theLastMentionIsLikeOthers();
        fortyPersonsByMention();
        fortyPersonsBySplit();
        allNumbersCount();
        joiningMakesNoRoom();
        mentionsAndPersonsFull();
        fortyTellings();
        fortyTellingsOfTwo();
        refusedTellingsDoNotCount();
        noOtherTellingCounts();
        goesOnWhenFullyTold();
        lastCall();
        lastCallBehindRefusedOnes();
        Due.end();
    }

    /** "MENTIONS are numbered from 0, at most 16", "if there are 16" */
    private static void sixteenMentions() {
        CountedRoll roll = Rolls.alike(15);
        Due.answers("2 the 16th", 15, () -> roll.mention(9, NONE, 5, NONE));
        Due.answers("2 its person", 15, () -> roll.person(15));
        Due.refuses("2 a 17th", Due.STATE, roll, r -> r.mention(0, 0, 0, 0));
        Due.refuses("2 a 17th of nothing known", Due.STATE, roll, r -> r.mention(0, NONE, 0, NONE));
        Due.answers("16 no 17th", Due.INDEX, () -> roll.person(16));
        Due.answers("17 no 17th person", Due.INDEX, () -> roll.entry(16));
        roll.join(0, 1);
        Due.refuses("2 a 17th, though there are fewer persons", Due.STATE, roll, r -> r.mention(0, 0, 0, 0));
        Due.answers("15 the next person is no mention", 16, () -> roll.split(0));
        Due.answers("16 still no 17th", Due.INDEX, () -> roll.person(16));
    }

    private static void theLastMentionIsLikeOthers() {
        CountedRoll roll = Rolls.alike(16);
        Due.answers("12 weight", 8, () -> roll.weight(15, 14));
        Due.answers("10 seal", false, () -> roll.seal(15, 0));
        Due.answers("12 weight, sealed", 13, () -> roll.weight(0, 15));
        Due.answers("11 block", false, () -> roll.block(14, 15, true));
        Due.answers("13 blocked", 2, () -> roll.whyNot(15, 14));
        Due.answers("21 kin", false, () -> roll.kin(15, 1));
        Due.answers("22 one step", 1, () -> roll.degree(1, 15));
        Due.answers("5 ahead", 2, () -> roll.ahead(14, 15, 50));
        Due.answers("6 find", 2, () -> roll.find(15, 0, 50));
        Due.answers("8 year of the one ahead", 0, () -> roll.year(14, true));
        Due.answers("9 yearAnew", 50, () -> roll.yearAnew(15, false));
        Due.answers("14 join", 0, () -> roll.join(15, 0));
        Due.answers("19 careerAt", 15, () -> roll.careerAt(15, 1));
        Due.answers("25 rival", NONE, () -> roll.rival(15, 15));
        Due.answers("26 differ", 1, roll::differ);
        Due.answers("15 split", 16, () -> roll.split(15));
    }

    /** "or 40 PERSONS", reached by a mention */
    private static void fortyPersonsByMention() {
        CountedRoll roll = Rolls.withPersons(2, 39);
        Due.answers("2 the mention of the 40th person", 2, () -> roll.mention(0, 0, 0, 0));
        Due.answers("16 the 40th person", 39, () -> roll.person(2));
        Due.refuses("2 at 40 persons", Due.STATE, roll, r -> r.mention(0, 0, 0, 0));
        roll.join(0, 1);
        Due.refuses("15 at 40 persons", Due.STATE, roll, r -> r.split(0));
        Due.answers("17 person 39", 39, () -> roll.entry(39));
        Due.answers("17 no person 40", Due.INDEX, () -> roll.entry(40));
    }

    /** "or there are 40 PERSONS", reached by a split */
    private static void fortyPersonsBySplit() {
        CountedRoll roll = Rolls.withPersons(3, 39);
        roll.join(0, 1);
        roll.join(0, 2);
        Due.answers("15 the 40th person", 39, () -> roll.split(0));
        Due.refuses("15 at 40 persons", Due.STATE, roll, r -> r.split(1));
        Due.refuses("15 at 40 persons, alone", Due.STATE, roll, r -> r.split(0));
        Due.refuses("2 at 40 persons", Due.STATE, roll, r -> r.mention(0, 0, 0, 0));
        Due.answers("16 person 39", 39, () -> roll.person(0));
        Due.answers("14 the 40th person is joined", 0, () -> roll.join(0, 1));
        Due.answers("17 and leads on", 0, () -> roll.entry(39));
        Due.answers("18 and is asked on", 3, () -> roll.size(39));
    }

    /** "PERSONS are numbered from 0, at most 40, those whose numbers lead to others with them" */
    private static void allNumbersCount() {
        CountedRoll roll = Rolls.withPersons(2, 40);
        for (int person = 1; person < 39; person++) {
            int p = person;
            Due.answers("17 leads to another one", 0, () -> roll.entry(p));
        }
        Due.answers("17 the first", 0, () -> roll.entry(0));
        Due.answers("17 the last", 39, () -> roll.entry(39));
        Due.refuses("2 two persons of 40 numbers", Due.STATE, roll, r -> r.mention(0, 0, 0, 0));
    }

    private static void joiningMakesNoRoom() {
        CountedRoll roll = Rolls.withPersons(4, 40);
        Due.answers("14 joined at 40 persons", 0, () -> roll.join(0, 1));
        Due.answers("14 joined at 40 persons", 0, () -> roll.join(2, 1));
        Due.answers("14 joined at 40 persons", 0, () -> roll.join(3, 2));
        Due.refuses("15 no room by joins", Due.STATE, roll, r -> r.split(3));
        Due.refuses("2 no room by joins", Due.STATE, roll, r -> r.mention(0, 0, 0, 0));
    }

    private static void mentionsAndPersonsFull() {
        CountedRoll roll = Rolls.withPersons(16, 40);
        Due.refuses("2 16 mentions, 40 persons", Due.STATE, roll, r -> r.mention(0, 0, 0, 0));
        roll.join(0, 1);
        Due.refuses("15 16 mentions, 40 persons", Due.STATE, roll, r -> r.split(1));
        CountedRoll other = Rolls.withPersons(15, 39);
        Due.answers("2 the last one of both", 15, () -> other.mention(0, 0, 0, 0));
        Due.answers("16 the last one of both", 39, () -> other.person(15));
        Due.answers("2 no more of both", Due.STATE, () -> other.mention(0, 0, 0, 0));
        CountedRoll split = Rolls.withPersons(16, 39);
        split.join(14, 15);
        Due.answers("15 the last one of 16 mentions", 39, () -> split.split(14));
        split.join(14, 15);
        Due.answers("15 no more", Due.STATE, () -> split.split(14));
    }

    /** "if it was told 40 times of any" */
    private static void fortyTellings() {
        CountedRoll roll = Rolls.withTellings(39);
        Due.answers("5 the 40th", 2, () -> roll.ahead(0, 1, 40));
        Due.answers("8 it holds", 40, () -> roll.year(1, false));
        Due.answers("9 it holds", 959, () -> roll.yearAnew(0, true));
        for (int one = 0; one < 3; one++) {
            for (int other = 0; other < 3; other++) {
                int a = one;
                int b = other;
                if (a != b) {
                    Due.refuses("5 the 41st, " + a + " ahead of " + b, Due.STATE, roll, r -> r.ahead(a, b, -50));
                }
            }
        }
        roll.mention(0, 0, 0, 0);
        Due.refuses("5 the 41st, of a new mention", Due.STATE, roll, r -> r.ahead(0, 3, 0));
    }

    private static void fortyTellingsOfTwo() {
        CountedRoll roll = Rolls.alike(4);
        for (int k = 0; k < 40; k++) {
            Due.answers("5 told again", k == 0 ? 2 : 0, () -> roll.ahead(0, 1, 1));
        }
        Due.refuses("5 the 41st of the same two", Due.STATE, roll, r -> r.ahead(0, 1, 1));
        Due.refuses("5 the 41st, of other two", Due.STATE, roll, r -> r.ahead(2, 3, 1));
        Due.refuses("5 the 41st, the other way round", Due.STATE, roll, r -> r.ahead(1, 0, -50));
        Due.refuses("5 the 41st, which would leave no dating", Due.STATE, roll, r -> r.ahead(1, 0, 0));
    }

    /** "a call that throws changes nothing" */
    private static void refusedTellingsDoNotCount() {
        CountedRoll roll = Rolls.alike(3);
        roll.ahead(0, 1, 0);
        for (int k = 0; k < 50; k++) {
            Due.answers("5 no dating", Due.STATE, () -> roll.ahead(1, 0, 1));
            Due.answers("5 out of range", Due.ARGUMENT, () -> roll.ahead(1, 0, 51));
            Due.answers("5 no mention", Due.INDEX, () -> roll.ahead(1, 3, 0));
        }
        for (int k = 1; k < 40; k++) {
            Due.answers("5 taken", 0, () -> roll.ahead(1, 2, -50));
        }
        Due.answers("5 full", Due.STATE, () -> roll.ahead(1, 2, -50));
    }

    private static void noOtherTellingCounts() {
        CountedRoll roll = Rolls.alike(3);
        for (int k = 0; k < 50; k++) {
            roll.find(0, k, 999);
            roll.wouldMove(1, k, 999);
            roll.kin(0, 1);
        }
        for (int k = 0; k < 40; k++) {
            Due.answers("5 taken behind finds", 0, () -> roll.ahead(0, 2, -50));
        }
        Due.answers("5 full behind finds", Due.STATE, () -> roll.ahead(0, 2, -50));
    }

    private static void goesOnWhenFullyTold() {
        CountedRoll roll = Rolls.withTellings(40);
        roll.mention(0, 0, 0, 0);
        Due.answers("7 would move by what was told", 3, () -> roll.wouldMove(0, 900, 999));
        Due.answers("6 moves by what was told", 3, () -> roll.find(0, 900, 999));
        Due.answers("8 moved", 859, () -> roll.year(1, false));
        Due.answers("8 a new mention is bound to nothing", 0, () -> roll.year(3, false));
        Due.answers("6 no dating", Due.STATE, () -> roll.find(2, 0, 800));
        Due.answers("7 no dating", NONE, () -> roll.wouldMove(2, 0, 800));
        Due.answers("14 others go on", 0, () -> roll.join(0, 3));
    }

    /** "An object is used for at most 512 calls": the 512th one is answered as it would be earlier. */
    private static void lastCall() {
        for (Calls.Open open : Calls.ofMention()) {
            compareLast(open, 1, Rolls::busy);
            compareLast(open, 5, Rolls::busy);
        }
        for (Calls.Open open : Calls.ofPerson()) {
            compareLast(open, 6, Rolls::busy);
        }
        for (Calls.Open open : Calls.ofPost()) {
            compareLast(open, 7, Rolls::busy);
        }
        compareLast(new Calls.Open("2 mention", (roll, post) -> roll.mention(0, 0, 0, post)), 7, Rolls::busy);
        compareLast(new Calls.Open("23 best", CountedRoll::best), 63, Rolls::busy);
        compareLast(new Calls.Open("24 bestAnew", CountedRoll::bestAnew), 63, Rolls::busy);
        compareLast(new Calls.Open("26 differ", (roll, none) -> roll.differ()), 0, Rolls::busy);
        compareLast(new Calls.Open("5 the 40th telling", (roll, gap) -> roll.ahead(2, 1, gap)), 3,
                () -> Rolls.withTellings(39));
        compareLast(new Calls.Open("15 the 40th person", CountedRoll::split), 0, () -> {
            CountedRoll roll = Rolls.withPersons(4, 39);
            roll.join(0, 3);
            return roll;
        });
    }

    private static void compareLast(Calls.Open open, int number, Supplier<CountedRoll> maker) {
        String early = Due.answerOf(() -> open.call().apply(maker.get(), number));
        CountedRoll roll = maker.get();
        while (roll.callsMade() < CountedRoll.MOST_CALLS - 1) {
            askSomething(roll, roll.callsMade());
        }
        Due.answers(open.name() + " " + number + ", as the 512th call", early, () -> open.call().apply(roll, number));
        Due.is("calls made", CountedRoll.MOST_CALLS, roll.callsMade());
    }

    private static void askSomething(CountedRoll roll, int turn) {
        switch (turn % 8) {
            case 0 -> roll.wouldMove(0, 150, 160);
            case 1 -> roll.yearAnew(1, true);
            case 2 -> roll.best(7);
            case 3 -> roll.bestAnew(7);
            case 4 -> roll.degree(0, 2);
            case 5 -> roll.breaches(0);
            case 6 -> roll.whyNot(0, 2);
            default -> roll.careerAt(0, 1);
        }
    }

    private static void lastCallBehindRefusedOnes() {
        CountedRoll roll = Rolls.withPersons(16, 40);
        while (roll.callsMade() < CountedRoll.MOST_CALLS - 1) {
            int turn = roll.callsMade();
            switch (turn % 4) {
                case 0 -> Due.answers("2 full", Due.STATE, () -> roll.mention(0, 0, 0, 0));
                case 1 -> Due.answers("15 alone", Due.STATE, () -> roll.split(15));
                case 2 -> Due.answers("17 no such person", Due.INDEX, () -> roll.entry(40));
                default -> Due.answers("23 too many", Due.ARGUMENT, () -> roll.best(127));
            }
        }
        Due.answers("14 as the 512th call, behind refused ones", 14, () -> roll.join(14, 15));
    }
}
