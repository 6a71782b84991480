/**
 * The officeholders' roll: mentions, their years, the persons that they are joined to, careers, kin,
 * best joins and a rival roll. The document tells what each call promises.
 *
 * Every row is made with the object and used again, because whatever a run makes is counted. Arrays
 * stand in {@link Row} alone, which looks at each index, so no call can fail by an index of its own.
 */
public final class OfficeholdersRoll {
    public static final int NONE = -1;

    private static final int MOST_MENTIONS = 16;
    private static final int MOST_PERSONS = 40;
    private static final int MOST_TOLD_AHEAD = 40;
    private static final int MOST_GROUPED = 6;
    private static final int POSTS = 8;

    private static final int GREATEST_NAME = 9;
    private static final int GREATEST_FAMILY = 9;
    private static final int GREATEST_PLACE = 5;
    private static final int GREATEST_RANK = 9;
    private static final int GREATEST_GAP = 50;
    private static final int GREATEST_YEAR = 999;
    private static final int GREATEST_LABEL = 15;

    private static final int NAME_WEIGHT = 2;
    private static final int FAMILY_WEIGHT = 3;
    private static final int PLACE_WEIGHT = 1;
    private static final int POST_WEIGHT = 2;
    private static final int SEAL_WEIGHT = 5;
    private static final int LEAST_JOINING_WEIGHT = 4;
    private static final int WEIGHT_OF_NO_WORTH = 3;

    private static final int CAN_BE_JOINED = 0;
    private static final int ONE_PERSON = 1;
    private static final int BLOCKED = 2;
    private static final int OTHER_FAMILY = 3;
    private static final int BARRED_AT_ONCE = 4;
    private static final int TOO_LIGHT = 5;
    /** Above every reason, so that the first reason that is so is simply the least one. */
    private static final int NO_REASON = 6;

    private final Row names = new Row(MOST_MENTIONS);
    private final Row families = new Row(MOST_MENTIONS);
    private final Row places = new Row(MOST_MENTIONS);
    private final Row posts = new Row(MOST_MENTIONS);
    private final Row labels = new Row(MOST_MENTIONS);
    private final Row ranks = new Row(POSTS);
    private final Pairs bars = new Pairs(POSTS);
    private final Pairs seals = new Pairs(MOST_MENTIONS);
    private final Pairs blocks = new Pairs(MOST_MENTIONS);
    private final Pairs kinships = new Pairs(MOST_MENTIONS);
    private final Years years = new Years();
    private final Persons persons = new Persons();
    private final Groupings groupings = new Groupings();
    private final Row career = new Row(MOST_MENTIONS);
    private final Row steps = new Row(MOST_PERSONS);
    private int mentionCount;

    public OfficeholdersRoll() {
        for (int post = 0; post < POSTS; post++) {
            ranks.put(post, post);
        }
    }

    // ---- mentions, posts

    public int mention(int name, int family, int place, int post)
            throws IndexOutOfBoundsException, IllegalArgumentException, IllegalStateException {
        if (post != NONE) {
            needPost(post);
        }
        needWithin(name, 0, GREATEST_NAME);
        needWithin(family, NONE, GREATEST_FAMILY);
        needWithin(place, 0, GREATEST_PLACE);
        if (mentionCount >= MOST_MENTIONS) {
            throw new IllegalStateException("there are 16 mentions");
        }
        needRoomForPerson();
        int mention = mentionCount;
        names.put(mention, name);
        families.put(mention, family);
        places.put(mention, place);
        posts.put(mention, post);
        labels.put(mention, NONE);
        persons.moveToNew(mention);
        mentionCount++;
        return mention;
    }

    public int rank(int post, int rank) throws IndexOutOfBoundsException, IllegalArgumentException {
        needPost(post);
        needWithin(rank, 0, GREATEST_RANK);
        int before = ranks.at(post);
        ranks.put(post, rank);
        return before;
    }

    public boolean bar(int post, int other, boolean is) throws IndexOutOfBoundsException, IllegalArgumentException {
        needPost(post);
        needPost(other);
        needUnlike(post, other);
        return bars.tell(post, other, is);
    }

    // ---- years

    public int ahead(int mention, int other, int gap)
            throws IndexOutOfBoundsException, IllegalArgumentException, IllegalStateException {
        needTwoMentions(mention, other);
        needWithin(gap, -GREATEST_GAP, GREATEST_GAP);
        if (years.isFullyTold()) {
            throw new IllegalStateException("ahead was told 40 times");
        }
        int moved = years.tellAhead(mention, other, gap);
        needDating(moved);
        return moved;
    }

    public int find(int mention, int low, int high)
            throws IndexOutOfBoundsException, IllegalArgumentException, IllegalStateException {
        needMention(mention);
        needYears(low, high);
        int moved = years.narrow(mention, low, high);
        needDating(moved);
        return moved;
    }

    public int wouldMove(int mention, int low, int high) throws IndexOutOfBoundsException, IllegalArgumentException {
        needMention(mention);
        needYears(low, high);
        return years.tryNarrow(mention, low, high);
    }

    public int year(int mention, boolean isLast) throws IndexOutOfBoundsException {
        needMention(mention);
        return isLast ? years.lastOf(mention) : years.firstOf(mention);
    }

    public int yearAnew(int mention, boolean isLast) throws IndexOutOfBoundsException {
        needMention(mention);
        return isLast ? years.lastByWays(mention) : years.firstByWays(mention);
    }

    // ---- reasons, persons

    public boolean seal(int mention, int other) throws IndexOutOfBoundsException, IllegalArgumentException {
        needTwoMentions(mention, other);
        return seals.tell(mention, other, true);
    }

    public boolean block(int mention, int other, boolean is)
            throws IndexOutOfBoundsException, IllegalArgumentException {
        needTwoMentions(mention, other);
        return blocks.tell(mention, other, is);
    }

    public int weight(int mention, int other) throws IndexOutOfBoundsException, IllegalArgumentException {
        needTwoMentions(mention, other);
        return weightOf(mention, other);
    }

    public int whyNot(int mention, int other) throws IndexOutOfBoundsException, IllegalArgumentException {
        needTwoMentions(mention, other);
        return reasonAgainst(mention, other);
    }

    public int join(int mention, int other)
            throws IndexOutOfBoundsException, IllegalArgumentException, IllegalStateException {
        needTwoMentions(mention, other);
        if (reasonAgainst(mention, other) != CAN_BE_JOINED) {
            throw new IllegalStateException("the two cannot be joined");
        }
        return persons.unite(persons.ownerOf(mention), persons.ownerOf(other));
    }

    public int split(int mention) throws IndexOutOfBoundsException, IllegalStateException {
        needMention(mention);
        if (mentionsOf(persons.ownerOf(mention)) < 2) {
            throw new IllegalStateException("no other mention belongs to its person");
        }
        needRoomForPerson();
        return persons.moveToNew(mention);
    }

    public int person(int mention) throws IndexOutOfBoundsException {
        needMention(mention);
        return persons.ownerOf(mention);
    }

    public int entry(int person) throws IndexOutOfBoundsException {
        needPerson(person);
        return persons.leadOf(person);
    }

    public int size(int person) throws IndexOutOfBoundsException {
        needPerson(person);
        return mentionsOf(persons.leadOf(person));
    }

    // ---- careers, kin

    public int careerAt(int person, int place) throws IndexOutOfBoundsException {
        needPerson(person);
        if (place < 0) {
            throw new IndexOutOfBoundsException("the place is below 0");
        }
        int length = layOutCareer(persons.leadOf(person));
        return place < length ? career.at(place) : NONE;
    }

    public int breaches(int person) throws IndexOutOfBoundsException {
        needPerson(person);
        int length = layOutCareer(persons.leadOf(person));
        int count = 0;
        for (int place = 1; place < length; place++) {
            if (rankAt(place) < rankAt(place - 1)) {
                count++;
            }
        }
        return count;
    }

    public boolean kin(int mention, int other) throws IndexOutOfBoundsException, IllegalArgumentException {
        needTwoMentions(mention, other);
        return kinships.tell(mention, other, true);
    }

    public int degree(int person, int other) throws IndexOutOfBoundsException {
        needPerson(person);
        needPerson(other);
        return stepsBetween(persons.leadOf(person), persons.leadOf(other));
    }

    // ---- best joins, rivals

    public int best(int mentions) throws IllegalArgumentException {
        needFewMentions(mentions);
        layOutPairs(mentions);
        return groupings.bestByParts();
    }

    public int bestAnew(int mentions) throws IllegalArgumentException {
        needFewMentions(mentions);
        layOutPairs(mentions);
        return groupings.bestOfAll();
    }

    public int rival(int mention, int label) throws IndexOutOfBoundsException, IllegalArgumentException {
        needMention(mention);
        needWithin(label, NONE, GREATEST_LABEL);
        int before = labels.at(mention);
        labels.put(mention, label);
        return before;
    }

    public int differ() {
        int pairs = 0;
        for (int one = 0; one < mentionCount; one++) {
            for (int other = one + 1; other < mentionCount; other++) {
                boolean isOnePerson = persons.ownerOf(one) == persons.ownerOf(other);
                if (isOnePerson != areTogetherForRival(one, other)) {
                    pairs++;
                }
            }
        }
        return pairs;
    }

    // ---- what a call needs of its arguments and of the roll

    private void needMention(int mention) {
        if (mention < 0 || mention >= mentionCount) {
            throw new IndexOutOfBoundsException("there is no such mention");
        }
    }

    private void needTwoMentions(int mention, int other) {
        needMention(mention);
        needMention(other);
        needUnlike(mention, other);
    }

    private void needPerson(int person) {
        if (person < 0 || person >= persons.made()) {
            throw new IndexOutOfBoundsException("there is no such person");
        }
    }

    private static void needPost(int post) {
        if (post < 0 || post >= POSTS) {
            throw new IndexOutOfBoundsException("there is no such post");
        }
    }

    private static void needUnlike(int one, int other) {
        if (one == other) {
            throw new IllegalArgumentException("both are the same");
        }
    }

    private static void needWithin(int value, int least, int greatest) {
        if (value < least || value > greatest) {
            throw new IllegalArgumentException("an argument is out of its range");
        }
    }

    private static void needYears(int low, int high) {
        needWithin(low, 0, GREATEST_YEAR);
        needWithin(high, low, GREATEST_YEAR);
    }

    private void needFewMentions(int mentions) {
        if (mentions >> mentionCount != 0) {
            throw new IllegalArgumentException("there are not all of these mentions");
        }
        needWithin(Integer.bitCount(mentions), 0, MOST_GROUPED);
    }

    private void needRoomForPerson() {
        if (persons.made() >= MOST_PERSONS) {
            throw new IllegalStateException("there are 40 persons");
        }
    }

    private static void needDating(int moved) {
        if (moved == NONE) {
            throw new IllegalStateException("there would be no dating");
        }
    }

    // ---- two mentions

    private int weightOf(int mention, int other) {
        int weight = 0;
        if (names.at(mention) == names.at(other)) {
            weight += NAME_WEIGHT;
        }
        if (areSameAndKnown(families.at(mention), families.at(other))) {
            weight += FAMILY_WEIGHT;
        }
        if (places.at(mention) == places.at(other)) {
            weight += PLACE_WEIGHT;
        }
        if (areSameAndKnown(posts.at(mention), posts.at(other))) {
            weight += POST_WEIGHT;
        }
        if (seals.has(mention, other)) {
            weight += SEAL_WEIGHT;
        }
        return weight;
    }

    private static boolean areSameAndKnown(int one, int other) {
        return one == other && one != NONE;
    }

    private boolean haveOtherFamilies(int mention, int other) {
        int family = families.at(mention);
        int otherFamily = families.at(other);
        return family != NONE && otherFamily != NONE && family != otherFamily;
    }

    private boolean areBarredAtOnce(int mention, int other) {
        int post = posts.at(mention);
        int otherPost = posts.at(other);
        return post != NONE && otherPost != NONE && bars.has(post, otherPost)
                && years.isCertain(mention) && years.isCertain(other)
                && years.firstOf(mention) == years.firstOf(other);
    }

    private boolean areTogetherForRival(int mention, int other) {
        return areSameAndKnown(labels.at(mention), labels.at(other));
    }

    // ---- two persons

    private int reasonAgainst(int mention, int other) {
        int person = persons.ownerOf(mention);
        int otherPerson = persons.ownerOf(other);
        if (person == otherPerson) {
            return ONE_PERSON;
        }
        int reason = weightOf(mention, other) < LEAST_JOINING_WEIGHT ? TOO_LIGHT : NO_REASON;
        for (int one = 0; one < mentionCount; one++) {
            if (persons.ownerOf(one) == person) {
                reason = Math.min(reason, reasonAgainstAny(one, otherPerson));
            }
        }
        return reason == NO_REASON ? CAN_BE_JOINED : reason;
    }

    private int reasonAgainstAny(int mention, int person) {
        int reason = NO_REASON;
        for (int other = 0; other < mentionCount; other++) {
            if (persons.ownerOf(other) == person) {
                reason = Math.min(reason, reasonOfPair(mention, other));
            }
        }
        return reason;
    }

    private int reasonOfPair(int mention, int other) {
        if (blocks.has(mention, other)) {
            return BLOCKED;
        }
        if (haveOtherFamilies(mention, other)) {
            return OTHER_FAMILY;
        }
        return areBarredAtOnce(mention, other) ? BARRED_AT_ONCE : NO_REASON;
    }

    private int mentionsOf(int person) {
        int count = 0;
        for (int mention = 0; mention < mentionCount; mention++) {
            if (persons.ownerOf(mention) == person) {
                count++;
            }
        }
        return count;
    }

    /** Leaves the career in its row, and answers how long it is. */
    private int layOutCareer(int person) {
        int length = 0;
        for (int mention = 0; mention < mentionCount; mention++) {
            if (persons.ownerOf(mention) == person && posts.at(mention) != NONE) {
                putInCareer(mention, length);
                length++;
            }
        }
        return length;
    }

    /** Passes no mention of the same year: they come by their numbers, and so stay in that order. */
    private void putInCareer(int mention, int length) {
        int place = length;
        while (place > 0 && years.firstOf(career.at(place - 1)) > years.firstOf(mention)) {
            career.put(place, career.at(place - 1));
            place--;
        }
        career.put(place, mention);
    }

    private int rankAt(int place) {
        return ranks.at(posts.at(career.at(place)));
    }

    private int stepsBetween(int person, int other) {
        steps.fill(NONE);
        steps.put(person, 0);
        // no way between persons needs more steps than there are mentions for them
        for (int step = 0; step < mentionCount && steps.at(other) == NONE; step++) {
            stepOn(step);
        }
        return steps.at(other);
    }

    private void stepOn(int step) {
        for (int mention = 0; mention < mentionCount; mention++) {
            if (steps.at(persons.ownerOf(mention)) == step) {
                reachKinOf(mention, step + 1);
            }
        }
    }

    private void reachKinOf(int mention, int step) {
        for (int other = 0; other < mentionCount; other++) {
            int person = persons.ownerOf(other);
            if (kinships.has(mention, other) && steps.at(person) == NONE) {
                steps.put(person, step);
            }
        }
    }

    private void layOutPairs(int mentions) {
        groupings.clear();
        for (int mention = 0; mention < mentionCount; mention++) {
            if ((mentions >> mention & 1) != 0) {
                groupings.add(mention);
            }
        }
        for (int one = 0; one < groupings.count(); one++) {
            for (int other = one + 1; other < groupings.count(); other++) {
                int worth = worthOfPair(groupings.mentionAt(one), groupings.mentionAt(other));
                groupings.putWorth(one, other, worth);
            }
        }
    }

    private int worthOfPair(int mention, int other) {
        if (blocks.has(mention, other) || haveOtherFamilies(mention, other)) {
            return Groupings.NOT_RIGHT;
        }
        return weightOf(mention, other) - WEIGHT_OF_NO_WORTH;
    }

    /** A row of numbers. Outside of it there is 0 to read, and nothing is written there. */
    private static final class Row {
        private final int[] cells;

        Row(int length) {
            cells = new int[Math.max(length, 0)];
        }

        int at(int index) {
            return index >= 0 && index < cells.length ? cells[index] : 0;
        }

        void put(int index, int value) {
            if (index >= 0 && index < cells.length) {
                cells[index] = value;
            }
        }

        void fill(int value) {
            for (int k = 0; k < cells.length; k++) {
                cells[k] = value;
            }
        }

        void copyFrom(Row other) {
            for (int k = 0; k < cells.length; k++) {
                cells[k] = other.at(k);
            }
        }
    }

    /** What is told of two of some numbers, whichever of the two is named first; at most 31 numbers. */
    private static final class Pairs {
        private final Row partners;

        Pairs(int numbers) {
            partners = new Row(numbers);
        }

        boolean has(int one, int other) {
            return (partners.at(one) >> other & 1) != 0;
        }

        /** Answers whether it was so before. */
        boolean tell(int one, int other, boolean is) {
            boolean was = has(one, other);
            mark(one, other, is);
            mark(other, one, is);
            return was;
        }

        private void mark(int one, int other, boolean is) {
            int bit = 1 << other;
            partners.put(one, is ? partners.at(one) | bit : partners.at(one) & ~bit);
        }
    }

    /**
     * The years of all mentions, also of those that nobody told yet: these are bound to nothing, so
     * nothing moves them.
     */
    private static final class Years {
        /** So far below every sum of gaps that no way comes near it. */
        private static final int NO_WAY = -1000000;

        private final Row lows = new Row(MOST_MENTIONS);
        private final Row highs = new Row(MOST_MENTIONS);
        private final Row formers = new Row(MOST_TOLD_AHEAD);
        private final Row latters = new Row(MOST_TOLD_AHEAD);
        private final Row gaps = new Row(MOST_TOLD_AHEAD);
        private final Row firsts = new Row(MOST_MENTIONS);
        private final Row lasts = new Row(MOST_MENTIONS);
        private final Row triedFirsts = new Row(MOST_MENTIONS);
        private final Row triedLasts = new Row(MOST_MENTIONS);
        private final Row ways = new Row(MOST_MENTIONS * MOST_MENTIONS);
        private int told;

        Years() {
            highs.fill(GREATEST_YEAR);
            lasts.fill(GREATEST_YEAR);
        }

        boolean isFullyTold() {
            return told >= MOST_TOLD_AHEAD;
        }

        int firstOf(int mention) {
            return firsts.at(mention);
        }

        int lastOf(int mention) {
            return lasts.at(mention);
        }

        boolean isCertain(int mention) {
            return firsts.at(mention) == lasts.at(mention);
        }

        /** Answers how many are moved; NONE if there is no dating, and then nothing was told. */
        int tellAhead(int former, int latter, int gap) {
            formers.put(told, former);
            latters.put(told, latter);
            gaps.put(told, gap);
            told++;
            int moved = tryDating();
            if (moved == NONE) {
                told--;
            } else {
                keepTried();
            }
            return moved;
        }

        /** Answers how many are moved; NONE if there is no dating, and then all is as it was. */
        int narrow(int mention, int low, int high) {
            int moved = tryNarrow(mention, low, high);
            if (moved != NONE) {
                lows.put(mention, Math.max(lows.at(mention), low));
                highs.put(mention, Math.min(highs.at(mention), high));
                keepTried();
            }
            return moved;
        }

        /** Answers as narrow does; only the tried years are other ones then. */
        int tryNarrow(int mention, int low, int high) {
            int oldLow = lows.at(mention);
            int oldHigh = highs.at(mention);
            lows.put(mention, Math.max(oldLow, low));
            highs.put(mention, Math.min(oldHigh, high));
            int moved = tryDating();
            lows.put(mention, oldLow);
            highs.put(mention, oldHigh);
            return moved;
        }

        private int tryDating() {
            triedFirsts.copyFrom(lows);
            triedLasts.copyFrom(highs);
            return comesToRest() && leavesYears() ? countMoved() : NONE;
        }

        private void keepTried() {
            firsts.copyFrom(triedFirsts);
            lasts.copyFrom(triedLasts);
        }

        /** A way that meets no mention twice has fewer steps than this takes: what moves on goes in a circle. */
        private boolean comesToRest() {
            for (int step = 0; step < MOST_MENTIONS; step++) {
                if (!pushAll()) {
                    return true;
                }
            }
            return false;
        }

        private boolean pushAll() {
            boolean isPushed = false;
            for (int k = 0; k < told; k++) {
                int former = formers.at(k);
                int latter = latters.at(k);
                int first = triedFirsts.at(former) + gaps.at(k);
                int last = triedLasts.at(latter) - gaps.at(k);
                if (first > triedFirsts.at(latter)) {
                    triedFirsts.put(latter, first);
                    isPushed = true;
                }
                if (last < triedLasts.at(former)) {
                    triedLasts.put(former, last);
                    isPushed = true;
                }
            }
            return isPushed;
        }

        private boolean leavesYears() {
            for (int mention = 0; mention < MOST_MENTIONS; mention++) {
                if (triedFirsts.at(mention) > triedLasts.at(mention)) {
                    return false;
                }
            }
            return true;
        }

        private int countMoved() {
            int moved = 0;
            for (int mention = 0; mention < MOST_MENTIONS; mention++) {
                if (triedFirsts.at(mention) != firsts.at(mention) || triedLasts.at(mention) != lasts.at(mention)) {
                    moved++;
                }
            }
            return moved;
        }

        int firstByWays(int mention) {
            measureWays();
            int first = lows.at(mention);
            for (int from = 0; from < MOST_MENTIONS; from++) {
                int way = wayBetween(from, mention);
                if (way != NO_WAY) {
                    first = Math.max(first, lows.at(from) + way);
                }
            }
            return first;
        }

        int lastByWays(int mention) {
            measureWays();
            int last = highs.at(mention);
            for (int to = 0; to < MOST_MENTIONS; to++) {
                int way = wayBetween(mention, to);
                if (way != NO_WAY) {
                    last = Math.min(last, highs.at(to) - way);
                }
            }
            return last;
        }

        private void measureWays() {
            ways.fill(NO_WAY);
            for (int k = 0; k < told; k++) {
                lengthen(formers.at(k), latters.at(k), gaps.at(k));
            }
            for (int via = 0; via < MOST_MENTIONS; via++) {
                for (int from = 0; from < MOST_MENTIONS; from++) {
                    lengthenAllVia(from, via);
                }
            }
        }

        private void lengthenAllVia(int from, int via) {
            int wayThere = wayBetween(from, via);
            if (wayThere == NO_WAY) {
                return;
            }
            for (int to = 0; to < MOST_MENTIONS; to++) {
                int wayOn = wayBetween(via, to);
                if (wayOn != NO_WAY) {
                    lengthen(from, to, wayThere + wayOn);
                }
            }
        }

        private int wayBetween(int from, int to) {
            return ways.at(from * MOST_MENTIONS + to);
        }

        private void lengthen(int from, int to, int way) {
            ways.put(from * MOST_MENTIONS + to, Math.max(wayBetween(from, to), way));
        }
    }

    /** To which person each mention belongs, and where each number of a person leads. */
    private static final class Persons {
        private final Row owners = new Row(MOST_MENTIONS);
        private final Row leads = new Row(MOST_PERSONS);
        private int made;

        int made() {
            return made;
        }

        int ownerOf(int mention) {
            return owners.at(mention);
        }

        int leadOf(int person) {
            return leads.at(person);
        }

        int moveToNew(int mention) {
            int person = made;
            leads.put(person, person);
            owners.put(mention, person);
            made++;
            return person;
        }

        /** Every number leads straight to its person, so that no chain need be followed. */
        int unite(int one, int other) {
            int kept = Math.min(one, other);
            int left = Math.max(one, other);
            for (int person = 0; person < made; person++) {
                if (leads.at(person) == left) {
                    leads.put(person, kept);
                }
            }
            for (int mention = 0; mention < MOST_MENTIONS; mention++) {
                if (owners.at(mention) == left) {
                    owners.put(mention, kept);
                }
            }
            return kept;
        }
    }

    /** The groupings of a few mentions, known here by their places; what two are worth is told from outside. */
    private static final class Groupings {
        /** So far below every worth that no sum of worths comes near it. */
        static final int NOT_RIGHT = -1000000;
        /** In so many ways six can be put into groups. */
        private static final int MOST_GROUPINGS = 203;

        private final Row mentions = new Row(MOST_GROUPED);
        private final Row pairWorths = new Row(MOST_GROUPED * MOST_GROUPED);
        private final Row groupWorths = new Row(1 << MOST_GROUPED);
        private final Row bests = new Row(1 << MOST_GROUPED);
        private final Row groups = new Row(MOST_GROUPED);
        private int count;

        void clear() {
            count = 0;
        }

        void add(int mention) {
            mentions.put(count, mention);
            count++;
        }

        int count() {
            return count;
        }

        int mentionAt(int place) {
            return mentions.at(place);
        }

        void putWorth(int one, int other, int worth) {
            pairWorths.put(one * MOST_GROUPED + other, worth);
        }

        private int pairWorth(int one, int other) {
            return pairWorths.at(one * MOST_GROUPED + other);
        }

        /** A set is built up from lesser sets, whose numbers are lesser ones too. */
        int bestByParts() {
            int all = (1 << count) - 1;
            bests.put(0, 0);
            for (int set = 1; set <= all; set++) {
                groupWorths.put(set, worthOfGroup(set));
                bests.put(set, bestOfSet(set));
            }
            return bests.at(all);
        }

        private int worthOfGroup(int set) {
            int worth = 0;
            for (int one = 0; one < count; one++) {
                for (int other = one + 1; other < count; other++) {
                    boolean areInSet = (set >> one & set >> other & 1) != 0;
                    if (areInSet && pairWorth(one, other) == NOT_RIGHT) {
                        return NOT_RIGHT;
                    }
                    worth += areInSet ? pairWorth(one, other) : 0;
                }
            }
            return worth;
        }

        /** Tries each group for the least member of the set alone: the best of the rest is known by then. */
        private int bestOfSet(int set) {
            int least = set & -set;
            int best = NOT_RIGHT;
            for (int group = least; group <= set; group++) {
                boolean isPart = (group & set) == group && (group & least) != 0;
                if (isPart && groupWorths.at(group) != NOT_RIGHT) {
                    best = Math.max(best, groupWorths.at(group) + bests.at(set ^ group));
                }
            }
            return best;
        }

        int bestOfAll() {
            groups.fill(0);
            int best = worthOfGrouping();
            for (int turn = 1; turn < MOST_GROUPINGS && goOnToNext(); turn++) {
                best = Math.max(best, worthOfGrouping());
            }
            return best;
        }

        private int worthOfGrouping() {
            int worth = 0;
            for (int one = 0; one < count; one++) {
                for (int other = one + 1; other < count; other++) {
                    boolean areTogether = groups.at(one) == groups.at(other);
                    if (areTogether && pairWorth(one, other) == NOT_RIGHT) {
                        return NOT_RIGHT;
                    }
                    worth += areTogether ? pairWorth(one, other) : 0;
                }
            }
            return worth;
        }

        /** A group's number is at most one above all those ahead of it: so each grouping comes just once. */
        private boolean goOnToNext() {
            for (int place = count - 1; place > 0; place--) {
                if (groups.at(place) <= greatestGroupBefore(place)) {
                    groups.put(place, groups.at(place) + 1);
                    return true;
                }
                groups.put(place, 0);
            }
            return false;
        }

        private int greatestGroupBefore(int place) {
            int greatest = 0;
            for (int k = 0; k < place; k++) {
                greatest = Math.max(greatest, groups.at(k));
            }
            return greatest;
        }
    }
}
