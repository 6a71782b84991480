import java.util.Random;

/**
 * Long runs of mixed calls, each answer compared with that of SlowRoll. The seeds are fixed, so that every
 * run is the same one each time; every run keeps to the 512 calls for which the document answers.
 */
public final class ModelTest {
    private static final int RUNS = 1500;
    private static final int CALLS = 512;
    private static final int[] ODD = {-2, -1, 8, 10, 16, 40, 51, 1000, Integer.MAX_VALUE, Integer.MIN_VALUE};

    private final Random random;
    private final OfficeholdersRoll roll = new OfficeholdersRoll();
    private final SlowRoll slow = new SlowRoll();
    private final int variety;
    private final int mentionsWanted;
    private final int yearsSpan;
    private final int oddOneIn;
    private final int focus;
    private int mentions;
    private int persons;

    private ModelTest(long seed) {
        random = new Random(seed);
        variety = 1 + random.nextInt(5);
        mentionsWanted = 2 + random.nextInt(15);
        yearsSpan = new int[] {3, 12, 1000}[random.nextInt(3)];
        oddOneIn = random.nextBoolean() ? 15 : 1000;
        focus = random.nextInt(7);
    }

    public static void main(String[] args) {
        for (int seed = 1; seed <= RUNS && !Due.isAnyWrong(); seed++) {
            new ModelTest(seed).run(seed);
        }
        Due.end();
    }

    private void run(int seed) {
        for (int call = 0; call < CALLS && !Due.isAnyWrong(); call++) {
            boolean isNew = mentions < mentionsWanted && random.nextInt(6) == 0 || random.nextInt(80) == 0;
            String what = "run " + seed + " call " + call + " ";
            if (isNew) {
                tellMention(what);
            } else {
                callAny(what);
            }
        }
    }

    private void compare(String what, Due.Call due, Due.Call got) {
        Due.is(what, Due.answerOf(due), Due.answerOf(got));
    }

    private boolean isOdd() {
        return random.nextInt(oddOneIn) == 0;
    }

    private int odd() {
        return ODD[random.nextInt(ODD.length)];
    }

    private int below(int bound) {
        return isOdd() ? odd() : random.nextInt(Math.max(bound, 1));
    }

    private int noneOrBelow(int bound) {
        return random.nextInt(4) == 0 ? -1 : below(bound);
    }

    private int anyMention() {
        return isOdd() ? mentions : below(mentions);
    }

    private int otherMention(int mention) {
        int other = anyMention();
        return other == mention && random.nextInt(10) != 0 ? (other + 1) % Math.max(mentions, 1) : other;
    }

    private int anyPerson() {
        return isOdd() ? persons : below(persons);
    }

    private void tellMention(String what) {
        int name = below(Math.min(variety, 10));
        int family = noneOrBelow(variety / 2);
        int place = below(Math.min(variety, 6));
        int post = noneOrBelow(8);
        compare(what + "mention " + name + " " + family + " " + place + " " + post,
                () -> slow.mention(name, family, place, post), () -> roll.mention(name, family, place, post));
        count();
    }

    /** So that arguments are mostly such as there are. */
    private void count() {
        while (mentions < 16 && !Due.answerOf(() -> slow.person(mentions)).equals(Due.INDEX)) {
            mentions++;
        }
        while (persons < 40 && !Due.answerOf(() -> slow.entry(persons)).equals(Due.INDEX)) {
            persons++;
        }
    }

    private void callAny(String what) {
        int one = anyMention();
        int other = otherMention(one);
        switch (random.nextInt(3) == 0 ? focus : random.nextInt(5)) {
            case 0 -> callPosts(what, one, other);
            case 1 -> callYears(what, one, other);
            case 2 -> callReasons(what, one, other);
            case 3 -> callPersons(what, one);
            case 4 -> callGroupings(what, one);
            case 5 -> joinOrSplit(what, one, other);
            default -> tellAhead(what, one, other);
        }
        count();
    }

    /** Reaches 40 persons in many runs. */
    private void joinOrSplit(String what, int one, int other) {
        if (random.nextInt(4) != 0) {
            compare(what + "join " + one + " " + other, () -> slow.join(one, other), () -> roll.join(one, other));
        } else {
            compare(what + "split " + one, () -> slow.split(one), () -> roll.split(one));
        }
    }

    /** Reaches 40 tellings in many runs. */
    private void tellAhead(String what, int one, int other) {
        int gap = isOdd() ? odd() : random.nextInt(101) - 50;
        int shortGap = yearsSpan < 1000 ? Math.max(-51, Math.min(gap / 12, 51)) : gap;
        compare(what + "ahead " + one + " " + other + " " + shortGap,
                () -> slow.ahead(one, other, shortGap), () -> roll.ahead(one, other, shortGap));
    }

    private void callPosts(String what, int one, int other) {
        int post = below(8);
        int otherPost = below(8);
        int rank = below(10);
        boolean is = random.nextInt(5) != 0;
        switch (random.nextInt(4)) {
            case 0 -> compare(what + "rank " + post + " " + rank, () -> slow.rank(post, rank),
                    () -> roll.rank(post, rank));
            case 1, 2 -> compare(what + "bar " + post + " " + otherPost + " " + is,
                    () -> slow.bar(post, otherPost, is), () -> roll.bar(post, otherPost, is) ? 1 : 0);
            default -> compare(what + "kin " + one + " " + other, () -> slow.kin(one, other),
                    () -> roll.kin(one, other) ? 1 : 0);
        }
    }

    private void callYears(String what, int one, int other) {
        int low = yearsSpan < 1000 ? below(yearsSpan) : below(300);
        int fineHigh = yearsSpan < 1000 ? Math.min(low + below(yearsSpan / 2), 999) : Math.max(low, 999 - below(300));
        int high = isOdd() ? odd() : fineHigh;
        boolean isLast = random.nextBoolean();
        switch (random.nextInt(9)) {
            case 0 -> tellAhead(what, one, other);
            case 1, 2 -> compare(what + "find " + one + " " + low + " " + high,
                    () -> slow.find(one, low, high), () -> roll.find(one, low, high));
            case 3, 4 -> compare(what + "wouldMove " + one + " " + low + " " + high,
                    () -> slow.wouldMove(one, low, high), () -> roll.wouldMove(one, low, high));
            case 5, 6 -> compare(what + "year " + one + " " + isLast,
                    () -> slow.year(one, isLast), () -> roll.year(one, isLast));
            default -> compare(what + "yearAnew " + one + " " + isLast,
                    () -> slow.year(one, isLast), () -> roll.yearAnew(one, isLast));
        }
    }

    private void callReasons(String start, int one, int other) {
        String what = start + one + " " + other + " ";
        boolean is = random.nextInt(5) == 0;
        switch (random.nextInt(8)) {
            case 0 -> compare(what + "seal", () -> slow.seal(one, other), () -> roll.seal(one, other) ? 1 : 0);
            case 1 -> compare(what + "block " + is, () -> slow.block(one, other, is),
                    () -> roll.block(one, other, is) ? 1 : 0);
            case 2 -> compare(what + "weight", () -> slow.weight(one, other), () -> roll.weight(one, other));
            case 3, 4, 5 -> compare(what + "whyNot", () -> slow.whyNot(one, other), () -> roll.whyNot(one, other));
            default -> compare(what + "join", () -> slow.join(one, other), () -> roll.join(one, other));
        }
    }

    private void callPersons(String what, int one) {
        int person = anyPerson();
        int otherPerson = anyPerson();
        int place = below(5);
        switch (random.nextInt(9)) {
            case 0 -> compare(what + "split " + one, () -> slow.split(one), () -> roll.split(one));
            case 1 -> compare(what + "person " + one, () -> slow.person(one), () -> roll.person(one));
            case 2 -> compare(what + "entry " + person, () -> slow.entry(person), () -> roll.entry(person));
            case 3 -> compare(what + "size " + person, () -> slow.size(person), () -> roll.size(person));
            case 4, 5 -> compare(what + "careerAt " + person + " " + place,
                    () -> slow.careerAt(person, place), () -> roll.careerAt(person, place));
            case 6 -> compare(what + "breaches " + person, () -> slow.breaches(person), () -> roll.breaches(person));
            default -> compare(what + "degree " + person + " " + otherPerson,
                    () -> slow.degree(person, otherPerson), () -> roll.degree(person, otherPerson));
        }
    }

    private void callGroupings(String what, int one) {
        int bits = 0;
        for (int k = random.nextInt(isOdd() ? 12 : 7); k > 0; k--) {
            bits |= 1 << random.nextInt(Math.max(mentions, 1));
        }
        int set = isOdd() ? odd() : bits;
        int label = noneOrBelow(1 + variety);
        switch (random.nextInt(6)) {
            case 0 -> compare(what + "best " + set, () -> slow.best(set), () -> roll.best(set));
            case 1 -> compare(what + "bestAnew " + set, () -> slow.best(set), () -> roll.bestAnew(set));
            case 2, 3 -> compare(what + "rival " + one + " " + label, () -> slow.rival(one, label),
                    () -> roll.rival(one, label));
            default -> compare(what + "differ", slow::differ, roll::differ);
        }
    }
}
