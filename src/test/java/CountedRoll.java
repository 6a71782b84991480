import java.util.ArrayList;
import java.util.List;
import java.util.function.Function;

/**
 * A roll that keeps the calls made of it: so it can be made anew, to ask a copy what would change the roll itself;
 * and the test ends at a 513th call of one object, because the document leaves free what that one answers.
 */
final class CountedRoll {
    static final int MOST_CALLS = 512;

    private final OfficeholdersRoll roll = new OfficeholdersRoll();
    private final List<Function<OfficeholdersRoll, ?>> calls = new ArrayList<>();

    private <T> T call(Function<OfficeholdersRoll, T> call) {
        if (calls.size() >= MOST_CALLS) {
            throw new AssertionError("a test makes more than " + MOST_CALLS + " calls of one object");
        }
        calls.add(call);
        return call.apply(roll);
    }

    /** Another object of which the same calls have been made, the refused ones too. */
    CountedRoll anew() {
        CountedRoll copy = new CountedRoll();
        for (Function<OfficeholdersRoll, ?> made : calls) {
            Due.answerOf(() -> copy.call(made));
        }
        return copy;
    }

    int callsMade() {
        return calls.size();
    }

    int mention(int name, int family, int place, int post) {
        return call(r -> r.mention(name, family, place, post));
    }

    int rank(int post, int rank) {
        return call(r -> r.rank(post, rank));
    }

    boolean bar(int post, int other, boolean is) {
        return call(r -> r.bar(post, other, is));
    }

    int ahead(int mention, int other, int gap) {
        return call(r -> r.ahead(mention, other, gap));
    }

    int find(int mention, int low, int high) {
        return call(r -> r.find(mention, low, high));
    }

    int wouldMove(int mention, int low, int high) {
        return call(r -> r.wouldMove(mention, low, high));
    }

    int year(int mention, boolean isLast) {
        return call(r -> r.year(mention, isLast));
    }

    int yearAnew(int mention, boolean isLast) {
        return call(r -> r.yearAnew(mention, isLast));
    }

    boolean seal(int mention, int other) {
        return call(r -> r.seal(mention, other));
    }

    boolean block(int mention, int other, boolean is) {
        return call(r -> r.block(mention, other, is));
    }

    int weight(int mention, int other) {
        return call(r -> r.weight(mention, other));
    }

    int whyNot(int mention, int other) {
        return call(r -> r.whyNot(mention, other));
    }

    int join(int mention, int other) {
        return call(r -> r.join(mention, other));
    }

    int split(int mention) {
        return call(r -> r.split(mention));
    }

    int person(int mention) {
        return call(r -> r.person(mention));
    }

    int entry(int person) {
        return call(r -> r.entry(person));
    }

    int size(int person) {
        return call(r -> r.size(person));
    }

    int careerAt(int person, int place) {
        return call(r -> r.careerAt(person, place));
    }

    int breaches(int person) {
        return call(r -> r.breaches(person));
    }

    boolean kin(int mention, int other) {
        return call(r -> r.kin(mention, other));
    }

    int degree(int person, int other) {
        return call(r -> r.degree(person, other));
    }

    int best(int mentions) {
        return call(r -> r.best(mentions));
    }

    int bestAnew(int mentions) {
        return call(r -> r.bestAnew(mentions));
    }

    int rival(int mention, int label) {
        return call(r -> r.rival(mention, label));
    }

    int differ() {
        return call(OfficeholdersRoll::differ);
    }
}
