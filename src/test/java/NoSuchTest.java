import java.util.List;
import java.util.function.Supplier;

/** "IndexOutOfBoundsException: there is no such MENTION, PERSON, POST or place in a row": every call that names one. */
public final class NoSuchTest {
    public static void main(String[] args) {
        all("one mention", () -> Rolls.alike(1), 1, 1);
        all("six mentions, seven persons", Rolls::busy, 6, 7);
        all("16 mentions", () -> Rolls.alike(16), 16, 16);
        all("three mentions, 40 persons", () -> Rolls.withPersons(3, 40), 3, 40);
        postOfMention();
        noSuchPlace();
        numbersOfAnotherKind();
        Due.end();
    }

    private static void all(String what, Supplier<CountedRoll> maker, int mentions, int persons) {
        Refusals refusals = new Refusals(maker);
        each(what, refusals, Calls.ofMention(), mentions);
        each(what, refusals, Calls.ofPerson(), persons);
        each(what, refusals, Calls.ofPost(), 8);
    }

    private static void each(String what, Refusals refusals, List<Calls.Open> calls, int count) {
        for (Calls.Open open : calls) {
            String asked = open.name() + ", " + what + ", number";
            refusals.outside(asked, Due.INDEX, 0, count - 1, open.call());
            if (count > 1) {
                refusals.inside(asked, 0, count - 1, open.call());
            }
        }
    }

    /** "as told, of the POST, but for NONE" */
    private static void postOfMention() {
        Refusals refusals = new Refusals(Rolls::busy);
        refusals.outside("2 post", Due.INDEX, OfficeholdersRoll.NONE, 7, (roll, post) -> roll.mention(0, 0, 0, post));
        refusals.inside("2 post", OfficeholdersRoll.NONE, 7, (roll, post) -> roll.mention(0, 0, 0, post));
        refusals.of("3 NONE has no rank", Due.INDEX, roll -> roll.rank(OfficeholdersRoll.NONE, 0));
        refusals.of("4 NONE is not barred", Due.INDEX, roll -> roll.bar(OfficeholdersRoll.NONE, 0, true));
    }

    /** "as told, of the PERSON, or if place is below 0": beyond the career there is NONE instead. */
    private static void noSuchPlace() {
        Refusals refusals = new Refusals(Rolls::busy);
        for (int person = 0; person < 7; person++) {
            int p = person;
            refusals.of("19 place -1 of " + p, Due.INDEX, roll -> roll.careerAt(p, -1));
            refusals.of("19 place least of " + p, Due.INDEX, roll -> roll.careerAt(p, Integer.MIN_VALUE));
            for (int place : new int[] {3, 15, 16, 17, 256, 65536, Integer.MAX_VALUE}) {
                Due.answers("19 place " + place + " of " + p, OfficeholdersRoll.NONE,
                        () -> Rolls.busy().careerAt(p, place));
            }
        }
        refusals.of("19 neither person nor place", Due.INDEX, roll -> roll.careerAt(7, -1));
        refusals.of("19 no person, place beyond", Due.INDEX, roll -> roll.careerAt(7, 16));
    }

    /** The number of a person is none of a mention, nor the other way round, where there are more of the one kind. */
    private static void numbersOfAnotherKind() {
        Refusals refusals = new Refusals(() -> Rolls.withPersons(2, 40));
        refusals.of("16 of a person's number", Due.INDEX, roll -> roll.person(2));
        refusals.of("16 of the last person's number", Due.INDEX, roll -> roll.person(39));
        refusals.of("15 of a person's number", Due.INDEX, roll -> roll.split(39));
        Due.answers("17 the last person", 39, () -> Rolls.withPersons(2, 40).entry(39));
        Due.answers("18 the last person", 1, () -> Rolls.withPersons(2, 40).size(39));
        refusals.of("17 person 40", Due.INDEX, roll -> roll.entry(40));
    }
}
