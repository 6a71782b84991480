import java.util.function.BiFunction;
import java.util.function.Function;

/**
 * Writes down all that a roll answers, and what it would answer when more is told. It asks copies alone, so that
 * the roll itself stays as it is, and no copy is asked more than the document promises.
 */
final class Look {
    /** More calls than any part makes that needs one copy for itself. */
    private static final int CALLS_OF_A_PART = 60;
    /** More calls than are made at once. */
    private static final int CALLS_OF_A_STEP = 4;

    private final CountedRoll source;
    private final int mentions;
    private final int persons;
    private final StringBuilder text = new StringBuilder();
    private CountedRoll copy;

    private Look(CountedRoll source) {
        if (source.callsMade() + CALLS_OF_A_PART > CountedRoll.MOST_CALLS) {
            throw new AssertionError("a test looks at a roll too late");
        }
        this.source = source;
        mentions = countMentions(source);
        persons = countPersons(source);
        copy = source.anew();
    }

    static String at(CountedRoll source) {
        Look look = new Look(source);
        look.text.append(look.mentions).append(" mentions, ").append(look.persons).append(" persons");
        look.mentionsAndYears();
        look.persons();
        look.pairs();
        look.groupings();
        look.toldOfPosts();
        look.toldOfMentions();
        look.gaps();
        look.roomForTellings(0, 1);
        look.roomForTellings(1, 0);
        look.roomForMentions();
        return look.text.toString();
    }

    private void head(String what) {
        text.append('\n').append(what).append(':');
    }

    private String ask(Function<CountedRoll, Object> call) {
        if (copy.callsMade() + CALLS_OF_A_STEP > CountedRoll.MOST_CALLS) {
            copy = source.anew();
        }
        String answer = Due.answerOf(() -> call.apply(copy));
        text.append(' ').append(answer);
        return answer;
    }

    private void mentionsAndYears() {
        for (int mention = 0; mention < mentions; mention++) {
            int m = mention;
            head("mention " + m + ", person and years");
            ask(roll -> roll.person(m));
            ask(roll -> roll.year(m, false));
            ask(roll -> roll.year(m, true));
            ask(roll -> roll.yearAnew(m, false));
            ask(roll -> roll.yearAnew(m, true));
        }
    }

    private void persons() {
        for (int person = 0; person < persons; person++) {
            int p = person;
            head("person " + p + ", entry, size, breaches, career");
            ask(roll -> roll.entry(p));
            ask(roll -> roll.size(p));
            ask(roll -> roll.breaches(p));
            boolean isMore = true;
            for (int place = 0; isMore; place++) {
                int k = place;
                isMore = k < 16 && !ask(roll -> roll.careerAt(p, k)).equals("-1");
            }
        }
    }

    private void pairs() {
        for (int one = 0; one < mentions; one++) {
            for (int other = one + 1; other < mentions; other++) {
                int a = one;
                int b = other;
                head("mentions " + a + " and " + b + ", weight, whyNot, degree");
                ask(roll -> roll.weight(a, b));
                ask(roll -> roll.whyNot(a, b));
                ask(roll -> roll.degree(roll.person(a), roll.person(b)));
            }
        }
    }

    private void groupings() {
        head("best, bestAnew, differ");
        for (int from = 0; from == 0 || from + 6 <= mentions; from++) {
            int few = (1 << Math.min(mentions, 6)) - 1 << from;
            ask(roll -> roll.best(few));
            ask(roll -> roll.bestAnew(few));
        }
        ask(CountedRoll::differ);
    }

    /** What was told is answered only when it is told anew. */
    private void toldOfPosts() {
        head("ranks");
        for (int post = 0; post < 8; post++) {
            int p = post;
            ask(roll -> roll.rank(p, 0));
        }
        head("bars");
        for (int post = 0; post < 8; post++) {
            for (int other = post + 1; other < 8; other++) {
                int p = post;
                int o = other;
                ask(roll -> roll.bar(p, o, false));
            }
        }
    }

    private void toldOfMentions() {
        for (int one = 0; one < mentions; one++) {
            int a = one;
            head("mention " + a + ", label; to others, block, seal, kin");
            ask(roll -> roll.rival(a, OfficeholdersRoll.NONE));
            for (int other = one + 1; other < mentions; other++) {
                int b = other;
                ask(roll -> roll.block(a, b, false));
                ask(roll -> roll.seal(a, b));
                ask(roll -> roll.kin(a, b));
            }
        }
    }

    /** By which gaps mentions are bound shows when one of them gets its last year and nothing else. */
    private void gaps() {
        for (int mention = 0; mention < mentions; mention++) {
            int m = mention;
            copy = source.anew();
            head("years by the last year of " + m);
            ask(roll -> roll.wouldMove(m, 0, roll.year(m, false)));
            ask(roll -> roll.find(m, roll.year(m, true), 999));
            for (int other = 0; other < mentions; other++) {
                int o = other;
                ask(roll -> roll.year(o, false));
                ask(roll -> roll.year(o, true));
            }
        }
    }

    private void roomForTellings(int former, int latter) {
        head("tellings " + former + " ahead of " + latter);
        copy = source.anew();
        for (int k = 0; k <= 40; k++) {
            ask(roll -> roll.ahead(former, latter, -50));
        }
    }

    private void roomForMentions() {
        head("new mentions and their persons");
        copy = source.anew();
        for (int k = 0; k <= 16; k++) {
            String mention = ask(roll -> roll.mention(0, OfficeholdersRoll.NONE, 0, OfficeholdersRoll.NONE));
            if (mention.length() <= 2) {
                ask(roll -> roll.person(Integer.parseInt(mention)));
            }
        }
    }

    static String careerOf(CountedRoll roll, int person) {
        StringBuilder text = new StringBuilder();
        for (int place = 0; place <= 16; place++) {
            int mention = roll.careerAt(person, place);
            if (mention == OfficeholdersRoll.NONE) {
                break;
            }
            text.append(' ').append(mention);
        }
        return text.toString();
    }

    static int countMentions(CountedRoll roll) {
        return count(roll, 16, CountedRoll::person);
    }

    static int countPersons(CountedRoll roll) {
        return count(roll, 40, CountedRoll::entry);
    }

    /** How many numbers from 0 on are there; one more than the most, if too many are. */
    private static int count(CountedRoll roll, int most, BiFunction<CountedRoll, Integer, Integer> call) {
        CountedRoll copy = roll.anew();
        for (int number = 0; number <= most; number++) {
            int asked = number;
            if (Due.answerOf(() -> call.apply(copy, asked)).equals(Due.INDEX)) {
                return number;
            }
        }
        return most + 1;
    }
}
