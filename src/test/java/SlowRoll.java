import java.util.ArrayList;
import java.util.Comparator;
import java.util.List;

/**
 * The document told a second time, by other means than the program's, to compare long runs of calls with.
 * Years come from shortest ways in one table that has the year 0 as a node of its own; numbers of persons
 * are followed as chains; the best grouping is sought among all labels.
 */
final class SlowRoll {
    static final int NONE = -1;
    private static final long FAR = 1L << 40;

    private record Mention(int name, int family, int place, int post) {
    }

    private record Told(int former, int latter, int gap) {
    }

    private final List<Mention> mentions = new ArrayList<>();
    private final List<int[]> narrowed = new ArrayList<>();
    private final List<Told> told = new ArrayList<>();
    private final List<Integer> personOf = new ArrayList<>();
    private final List<Integer> leadsTo = new ArrayList<>();
    private final List<Integer> labels = new ArrayList<>();
    private final int[] ranks = {0, 1, 2, 3, 4, 5, 6, 7};
    private final boolean[][] barred = new boolean[8][8];
    private final boolean[][] sealedPairs = new boolean[16][16];
    private final boolean[][] blocked = new boolean[16][16];
    private final boolean[][] kin = new boolean[16][16];

    private void index(boolean isThere) {
        if (!isThere) {
            throw new IndexOutOfBoundsException();
        }
    }

    private void argument(boolean isFine) {
        if (!isFine) {
            throw new IllegalArgumentException();
        }
    }

    private void state(boolean isFine) {
        if (!isFine) {
            throw new IllegalStateException();
        }
    }

    private void mentionsThere(int... numbers) {
        for (int number : numbers) {
            index(number >= 0 && number < mentions.size());
        }
    }

    private void personsThere(int... numbers) {
        for (int number : numbers) {
            index(number >= 0 && number < leadsTo.size());
        }
    }

    int mention(int name, int family, int place, int post) {
        index(post >= NONE && post <= 7);
        argument(name >= 0 && name <= 9 && family >= NONE && family <= 9 && place >= 0 && place <= 5);
        state(mentions.size() < 16 && leadsTo.size() < 40);
        mentions.add(new Mention(name, family, place, post));
        narrowed.add(new int[] {0, 999});
        labels.add(NONE);
        personOf.add(leadsTo.size());
        leadsTo.add(NONE);
        return mentions.size() - 1;
    }

    int rank(int post, int rank) {
        index(post >= 0 && post <= 7);
        argument(rank >= 0 && rank <= 9);
        int before = ranks[post];
        ranks[post] = rank;
        return before;
    }

    int bar(int post, int other, boolean is) {
        index(post >= 0 && post <= 7 && other >= 0 && other <= 7);
        argument(post != other);
        boolean was = barred[post][other];
        barred[post][other] = is;
        barred[other][post] = is;
        return was ? 1 : 0;
    }

    /** First and last years of all mentions; null if there is no dating. The node behind all mentions is the year 0. */
    private int[][] bounds() {
        int n = mentions.size();
        long[][] most = new long[n + 1][n + 1];
        for (int a = 0; a <= n; a++) {
            for (int b = 0; b <= n; b++) {
                most[a][b] = a == b ? 0 : FAR;
            }
        }
        for (int m = 0; m < n; m++) {
            most[n][m] = narrowed.get(m)[1];
            most[m][n] = -narrowed.get(m)[0];
        }
        for (Told t : told) {
            most[t.latter()][t.former()] = Math.min(most[t.latter()][t.former()], -t.gap());
        }
        for (int via = 0; via <= n; via++) {
            for (int a = 0; a <= n; a++) {
                for (int b = 0; b <= n; b++) {
                    most[a][b] = Math.min(most[a][b], most[a][via] + most[via][b]);
                }
            }
        }
        int[][] bounds = new int[n][2];
        for (int m = 0; m < n; m++) {
            if (most[m][m] < 0 || most[n][n] < 0) {
                return null;
            }
            bounds[m][0] = (int) -most[m][n];
            bounds[m][1] = (int) most[n][m];
        }
        return bounds;
    }

    private static int moved(int[][] before, int[][] behind) {
        int count = 0;
        for (int m = 0; m < before.length; m++) {
            if (before[m][0] != behind[m][0] || before[m][1] != behind[m][1]) {
                count++;
            }
        }
        return count;
    }

    int ahead(int mention, int other, int gap) {
        mentionsThere(mention, other);
        argument(mention != other && gap >= -50 && gap <= 50);
        state(told.size() < 40);
        int[][] before = bounds();
        told.add(new Told(mention, other, gap));
        int[][] behind = bounds();
        if (behind == null) {
            told.remove(told.size() - 1);
        }
        state(behind != null);
        return moved(before, behind);
    }

    int find(int mention, int low, int high) {
        int moved = wouldMove(mention, low, high);
        state(moved != NONE);
        int[] years = narrowed.get(mention);
        narrowed.set(mention, new int[] {Math.max(years[0], low), Math.min(years[1], high)});
        return moved;
    }

    int wouldMove(int mention, int low, int high) {
        mentionsThere(mention);
        argument(low >= 0 && low <= 999 && high >= low && high <= 999);
        int[] years = narrowed.get(mention);
        int[][] before = bounds();
        narrowed.set(mention, new int[] {Math.max(years[0], low), Math.min(years[1], high)});
        int[][] behind = bounds();
        narrowed.set(mention, years);
        return behind == null ? NONE : moved(before, behind);
    }

    int year(int mention, boolean isLast) {
        mentionsThere(mention);
        return bounds()[mention][isLast ? 1 : 0];
    }

    private int tell(boolean[][] pairs, int mention, int other, boolean is) {
        mentionsThere(mention, other);
        argument(mention != other);
        boolean was = pairs[mention][other];
        pairs[mention][other] = is;
        pairs[other][mention] = is;
        return was ? 1 : 0;
    }

    int seal(int mention, int other) {
        return tell(sealedPairs, mention, other, true);
    }

    int block(int mention, int other, boolean is) {
        return tell(blocked, mention, other, is);
    }

    int kin(int mention, int other) {
        return tell(kin, mention, other, true);
    }

    int weight(int mention, int other) {
        mentionsThere(mention, other);
        argument(mention != other);
        Mention a = mentions.get(mention);
        Mention b = mentions.get(other);
        return (a.name() == b.name() ? 2 : 0)
                + (a.family() != NONE && a.family() == b.family() ? 3 : 0)
                + (a.place() == b.place() ? 1 : 0)
                + (a.post() != NONE && a.post() == b.post() ? 2 : 0)
                + (sealedPairs[mention][other] ? 5 : 0);
    }

    private boolean otherFamilies(int a, int b) {
        int one = mentions.get(a).family();
        int other = mentions.get(b).family();
        return one != NONE && other != NONE && one != other;
    }

    private boolean barredAtOnce(int a, int b, int[][] bounds) {
        int one = mentions.get(a).post();
        int other = mentions.get(b).post();
        return one != NONE && other != NONE && barred[one][other] && bounds[a][0] == bounds[a][1]
                && bounds[b][0] == bounds[b][1] && bounds[a][0] == bounds[b][0];
    }

    int whyNot(int mention, int other) {
        int weight = weight(mention, other);
        if (person(mention) == person(other)) {
            return 1;
        }
        int[][] bounds = bounds();
        List<Integer> ones = mentionsOf(person(mention));
        List<Integer> others = mentionsOf(person(other));
        for (int reason = 2; reason <= 4; reason++) {
            for (int a : ones) {
                for (int b : others) {
                    if (reason == 2 ? blocked[a][b] : reason == 3 ? otherFamilies(a, b) : barredAtOnce(a, b, bounds)) {
                        return reason;
                    }
                }
            }
        }
        return weight < 4 ? 5 : 0;
    }

    int join(int mention, int other) {
        int reason = whyNot(mention, other);
        state(reason == 0);
        int one = person(mention);
        int two = person(other);
        leadsTo.set(Math.max(one, two), Math.min(one, two));
        return Math.min(one, two);
    }

    int split(int mention) {
        mentionsThere(mention);
        state(mentionsOf(person(mention)).size() > 1 && leadsTo.size() < 40);
        personOf.set(mention, leadsTo.size());
        leadsTo.add(NONE);
        return leadsTo.size() - 1;
    }

    int person(int mention) {
        mentionsThere(mention);
        return entry(personOf.get(mention));
    }

    int entry(int person) {
        personsThere(person);
        return leadsTo.get(person) == NONE ? person : entry(leadsTo.get(person));
    }

    private List<Integer> mentionsOf(int person) {
        List<Integer> found = new ArrayList<>();
        for (int m = 0; m < mentions.size(); m++) {
            if (person(m) == entry(person)) {
                found.add(m);
            }
        }
        return found;
    }

    int size(int person) {
        personsThere(person);
        return mentionsOf(person).size();
    }

    private List<Integer> career(int person) {
        int[][] bounds = bounds();
        List<Integer> row = mentionsOf(person);
        row.removeIf(m -> mentions.get(m).post() == NONE);
        row.sort(Comparator.comparingInt((Integer m) -> bounds[m][0]).thenComparingInt(m -> m));
        return row;
    }

    int careerAt(int person, int place) {
        personsThere(person);
        index(place >= 0);
        List<Integer> row = career(person);
        return place < row.size() ? row.get(place) : NONE;
    }

    int breaches(int person) {
        personsThere(person);
        int count = 0;
        int rankAhead = -1;
        for (int m : career(person)) {
            int rank = ranks[mentions.get(m).post()];
            count += rank < rankAhead ? 1 : 0;
            rankAhead = rank;
        }
        return count;
    }

    int degree(int person, int other) {
        personsThere(person, other);
        List<Integer> reached = new ArrayList<>(List.of(entry(person)));
        List<Integer> degrees = new ArrayList<>(List.of(0));
        for (int k = 0; k < reached.size(); k++) {
            for (int a : mentionsOf(reached.get(k))) {
                for (int b = 0; b < mentions.size(); b++) {
                    if (kin[a][b] && !reached.contains(person(b))) {
                        reached.add(person(b));
                        degrees.add(degrees.get(k) + 1);
                    }
                }
            }
        }
        int at = reached.indexOf(entry(other));
        return at < 0 ? NONE : degrees.get(at);
    }

    int best(int set) {
        List<Integer> chosen = new ArrayList<>();
        for (int bit = 0; bit < 32; bit++) {
            if ((set >>> bit & 1) != 0) {
                argument(bit < mentions.size());
                chosen.add(bit);
            }
        }
        argument(chosen.size() <= 6);
        return bestFrom(chosen, new int[chosen.size()], 0);
    }

    private int bestFrom(List<Integer> chosen, int[] group, int place) {
        if (place == chosen.size()) {
            return worth(chosen, group);
        }
        int best = Integer.MIN_VALUE;
        for (int label = 0; label <= place; label++) {
            group[place] = label;
            best = Math.max(best, bestFrom(chosen, group, place + 1));
        }
        return best;
    }

    private int worth(List<Integer> chosen, int[] group) {
        int worth = 0;
        for (int i = 0; i < group.length; i++) {
            for (int j = 0; j < i; j++) {
                if (group[i] == group[j]) {
                    int a = chosen.get(i);
                    int b = chosen.get(j);
                    if (blocked[a][b] || otherFamilies(a, b)) {
                        return Integer.MIN_VALUE;
                    }
                    worth += weight(a, b) - 3;
                }
            }
        }
        return worth;
    }

    int rival(int mention, int label) {
        mentionsThere(mention);
        argument(label >= NONE && label <= 15);
        return labels.set(mention, label);
    }

    int differ() {
        int count = 0;
        for (int a = 0; a < mentions.size(); a++) {
            for (int b = 0; b < a; b++) {
                boolean isRival = labels.get(a) != NONE && labels.get(a).intValue() == labels.get(b);
                count += person(a) == person(b) != isRival ? 1 : 0;
            }
        }
        return count;
    }
}
