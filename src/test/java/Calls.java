import java.util.List;
import java.util.function.BiFunction;

/** The calls that name a mention, a person or a post, with this one number left open and all others fine. */
final class Calls {
    record Open(String name, BiFunction<CountedRoll, Integer, Object> call) {
    }

    private Calls() {
    }

    /** Calls that name two mentions name another one that is there too, if there are two. */
    private static int other(int mention) {
        return mention == 0 ? 1 : 0;
    }

    static List<Open> ofMention() {
        return List.of(
                new Open("5 ahead, the former", (roll, m) -> roll.ahead(m, other(m), 0)),
                new Open("5 ahead, the latter", (roll, m) -> roll.ahead(other(m), m, 0)),
                new Open("6 find", (roll, m) -> roll.find(m, 0, 999)),
                new Open("7 wouldMove", (roll, m) -> roll.wouldMove(m, 0, 999)),
                new Open("8 year, the first", (roll, m) -> roll.year(m, false)),
                new Open("8 year, the last", (roll, m) -> roll.year(m, true)),
                new Open("9 yearAnew, the first", (roll, m) -> roll.yearAnew(m, false)),
                new Open("9 yearAnew, the last", (roll, m) -> roll.yearAnew(m, true)),
                new Open("10 seal, the one", (roll, m) -> roll.seal(m, other(m))),
                new Open("10 seal, the other", (roll, m) -> roll.seal(other(m), m)),
                new Open("11 block, the one", (roll, m) -> roll.block(m, other(m), true)),
                new Open("11 block, the other", (roll, m) -> roll.block(other(m), m, true)),
                new Open("11 unblock, the one", (roll, m) -> roll.block(m, other(m), false)),
                new Open("11 unblock, the other", (roll, m) -> roll.block(other(m), m, false)),
                new Open("12 weight, the one", (roll, m) -> roll.weight(m, other(m))),
                new Open("12 weight, the other", (roll, m) -> roll.weight(other(m), m)),
                new Open("13 whyNot, the one", (roll, m) -> roll.whyNot(m, other(m))),
                new Open("13 whyNot, the other", (roll, m) -> roll.whyNot(other(m), m)),
                new Open("14 join, the one", (roll, m) -> roll.join(m, other(m))),
                new Open("14 join, the other", (roll, m) -> roll.join(other(m), m)),
                new Open("15 split", (roll, m) -> roll.split(m)),
                new Open("16 person", (roll, m) -> roll.person(m)),
                new Open("21 kin, the one", (roll, m) -> roll.kin(m, other(m))),
                new Open("21 kin, the other", (roll, m) -> roll.kin(other(m), m)),
                new Open("25 rival", (roll, m) -> roll.rival(m, 1)),
                new Open("25 rival, none", (roll, m) -> roll.rival(m, OfficeholdersRoll.NONE)));
    }

    static List<Open> ofPerson() {
        return List.of(
                new Open("17 entry", (roll, p) -> roll.entry(p)),
                new Open("18 size", (roll, p) -> roll.size(p)),
                new Open("19 careerAt", (roll, p) -> roll.careerAt(p, 0)),
                new Open("20 breaches", (roll, p) -> roll.breaches(p)),
                new Open("22 degree, the one", (roll, p) -> roll.degree(p, 0)),
                new Open("22 degree, the other", (roll, p) -> roll.degree(0, p)),
                new Open("22 degree, of itself", (roll, p) -> roll.degree(p, p)));
    }

    static List<Open> ofPost() {
        return List.of(
                new Open("3 rank", (roll, p) -> roll.rank(p, 0)),
                new Open("4 bar, the one", (roll, p) -> roll.bar(p, other(p), true)),
                new Open("4 bar, the other", (roll, p) -> roll.bar(other(p), p, true)),
                new Open("4 unbar, the one", (roll, p) -> roll.bar(p, other(p), false)),
                new Open("4 unbar, the other", (roll, p) -> roll.bar(other(p), p, false)));
    }
}
