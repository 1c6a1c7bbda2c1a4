import java.math.BigInteger;
import java.util.ArrayList;
import java.util.Arrays;
import java.util.HashMap;
import java.util.List;
import java.util.Map;
import java.util.Random;
import java.util.Set;
import java.util.TreeSet;

/**
 * In films of many shapes, drawn by fixed seeds, every search of III and IV is asked of every SCENE, and rosters of many
 * shapes; what is due is found by trying all.
 */
public final class AllSearches {
    private static final int NONE = FilmLooksBack.NONE;
    private static final int FILMS = 240;
    private static final int ROSTERS = 1500;
    private static final int FAR_OFF = 1_000_000;

    public static void main(String[] args) {
        for (int seed = 0; seed < FILMS; seed++) {
            Plan plan = new Plan(new Random(seed), seed % 6);
            waysToTheEnd(plan);
            rowsOfCues(plan);
            odds(plan);
            waysAndRuns(plan);
            sorts(plan);
            seventhRow(plan);
        }
        for (int seed = 0; seed < ROSTERS; seed++) {
            roster(new Random(seed), seed % 5);
        }
        Due.end();
    }

    // ---------------------------------------------------------------- films

    /** A film as it is to be told, and as it is by each cue then: by cue 0 some SCENES are CHANGED. */
    private static final class Plan {
        final int[][] told = new int[12][4];
        final int[] calledBy = new int[12];
        final int[] kind = new int[12];
        final int[][] next = new int[13][4];
        final Random random;

        Plan(Random random, int shape) {
            this.random = random;
            int[] order = shuffled(random, 12);
            for (int i = 0; i < 12; i++) {
                int s = order[i];
                int behind = i == 11 ? 12 : order[i + 1];
                for (int c = 0; c < 4; c++) {
                    told[s][c] = lead(shape, s, behind, order);
                }
                kind[s] = shape == 2 ? 0 : random.nextInt(shape % 2 == 0 ? 2 : 4);
                calledBy[s] = random.nextInt(4) == 0 ? 1 + random.nextInt(3) : 0;
                next[s] = told[s].clone();
                next[s][0] = told[s][calledBy[s]];
            }
            Arrays.fill(next[12], 12);
        }

        private int lead(int shape, int s, int behind, int[] order) {
            switch (shape) {
                case 0:
                    return random.nextInt(13);
                case 1:
                    return random.nextInt(12) == 0 ? random.nextInt(13) : behind;
                case 2:
                    return random.nextInt(3) == 0 ? s : behind;
                case 3:
                    return random.nextInt(3) == 0 ? order[0] : behind;
                case 4:
                    return random.nextInt(10) == 0 ? random.nextInt(13) : s;
                default:
                    return random.nextInt(20) == 0 ? 12 : order[random.nextInt(4)];
            }
        }

        /** It is told in a new house; no more than 72 calls. */
        FilmLooksBack house(int promise, String sentence) {
            FilmLooksBack x = Due.test(promise, sentence + ", " + Arrays.deepToString(next) + Arrays.toString(kind));
            for (int s = 0; s < 12; s++) {
                for (int c = 0; c < 4; c++) {
                    x.scene(s, c, told[s][c]);
                }
                x.kind(s, kind[s]);
                x.call(s, calledBy[s]);
            }
            return x;
        }

        int kindOf(int s) {
            return s == 12 ? 4 : kind[s];
        }

        /** Of each place: the first of the shortest rows of cues to it; null if none leads there. */
        List<List<Integer>> rowsFrom(int from) {
            List<List<Integer>> rows = new ArrayList<>();
            for (int s = 0; s < 13; s++) {
                rows.add(null);
            }
            rows.set(from, List.of());
            List<Integer> come = new ArrayList<>(List.of(from));
            for (int i = 0; i < come.size(); i++) {
                for (int c = 0; c < 4; c++) {
                    int to = next[come.get(i)][c];
                    if (rows.get(to) == null) {
                        List<Integer> row = new ArrayList<>(rows.get(come.get(i)));
                        row.add(c);
                        rows.set(to, row);
                        come.add(to);
                    }
                }
            }
            return rows;
        }
    }

    private static int[] shuffled(Random random, int n) {
        int[] order = new int[n];
        for (int i = 0; i < n; i++) {
            int j = random.nextInt(i + 1);
            order[i] = order[j];
            order[j] = i;
        }
        return order;
    }

    // ---------------------------------------------------------------- III

    private static void waysToTheEnd(Plan plan) {
        FilmLooksBack x = plan.house(33, "ROUND, DEAD, FAR, A PLAY");
        int dead = 0;
        int far = NONE;
        int longest = 0;
        for (int s = 0; s < 12; s++) {
            boolean again = false;
            for (int c = 0; c < 4; c++) {
                again |= plan.rowsFrom(plan.next[s][c]).get(s) != null;
            }
            Due.is("round(" + s + ")", x.round(s), again ? 1 : 0);
            List<Integer> row = plan.rowsFrom(s).get(12);
            dead |= row == null ? 1 << s : 0;
            if (row != null && row.size() > longest) {
                longest = row.size();
                far = s;
            }
        }
        Due.is("dead()", x.dead(), dead);
        Due.is("far()", x.far(), far);
        // Of each place, in how many cues of at most so many: [0] who would have it is next, [1] who wouldn't.
        int[][] comes = new int[2][13];
        for (int s = 0; s < 12; s++) {
            comes[0][s] = FAR_OFF;
            comes[1][s] = FAR_OFF;
        }
        for (int cues = 0; cues < 40; cues++) {
            int[][] more = new int[2][13];
            for (int s = 0; s < 12; s++) {
                int[] soon = chosen(plan, comes[1], s, true);
                int[] late = chosen(plan, comes[0], s, false);
                more[0][s] = Math.min(FAR_OFF, 1 + soon[0]);
                more[1][s] = Math.min(FAR_OFF, 1 + late[0]);
            }
            comes = more;
        }
        for (int s = 0; s < 13; s++) {
            for (int who = 0; who < 2; who++) {
                boolean first = who == 0;
                int cues = comes[who][s];
                boolean none = s == 12 || first && cues == FAR_OFF;
                Due.is("soonest(" + s + ", " + first + ")", x.soonest(s, first), cues == FAR_OFF ? NONE : cues);
                Due.is("best(" + s + ", " + first + ")", x.best(s, first),
                        none ? NONE : chosen(plan, comes[1 - who], s, first)[1]);
            }
        }
    }

    /** The least (soon) or greatest of what is behind the four cues, and the lowest cue behind which it is. */
    private static int[] chosen(Plan plan, int[] behind, int s, boolean soon) {
        int[] found = {behind[plan.next[s][0]], 0};
        for (int c = 1; c < 4; c++) {
            int here = behind[plan.next[s][c]];
            if (soon ? here < found[0] : here > found[0]) {
                found = new int[] {here, c};
            }
        }
        return found;
    }

    private static void rowsOfCues(Plan plan) {
        FilmLooksBack x = plan.house(24, "SHORTEST from each to each: how many");
        for (int from = 0; from < 13; from++) {
            List<List<Integer>> rows = plan.rowsFrom(from);
            for (int to = 0; to < 13; to++) {
                List<Integer> row = rows.get(to);
                Due.is("shortest(" + from + ", " + to + ", NONE)", x.shortest(from, to, NONE),
                        row == null ? -2 : row.size());
            }
        }
        x = plan.house(24, "SHORTEST: the i-th");
        for (int asked = 0; asked < 30; asked++) {
            int from = plan.random.nextInt(13);
            int to = plan.random.nextInt(13);
            List<Integer> row = plan.rowsFrom(from).get(to);
            int cues = row == null ? 0 : row.size();
            for (int i = 0; i <= cues; i++) {
                Due.is("shortest(" + from + ", " + to + ", " + i + ")", x.shortest(from, to, i),
                        i == cues ? -2 : row.get(i));
            }
        }
    }

    private static void odds(Plan plan) {
        FilmLooksBack x = plan.house(27, "ODDS within each n");
        int[] weights = new int[4];
        for (int tenth = 0; tenth < 10; tenth++) {
            weights[plan.random.nextInt(4)]++;
        }
        x.weigh(weights[0], weights[1], weights[2], weights[3]);
        for (int n = 0; n <= 9; n++) {
            BigInteger whole = BigInteger.TEN.pow(n);
            Map<Integer, BigInteger> known = new HashMap<>();
            for (int s = 0; s < 13; s++) {
                BigInteger rows = within(plan, weights, s, n, known);
                BigInteger common = rows.gcd(whole);
                Due.is("odds(" + s + ", " + n + ", false)", x.odds(s, n, false), rows.divide(common).longValue());
                Due.is("odds(" + s + ", " + n + ", true)", x.odds(s, n, true), whole.divide(common).longValue());
            }
        }
    }

    private static BigInteger within(Plan plan, int[] weights, int s, int n, Map<Integer, BigInteger> known) {
        if (s == 12) {
            return BigInteger.TEN.pow(n);
        }
        if (n == 0) {
            return BigInteger.ZERO;
        }
        BigInteger sum = known.get(s * 100 + n);
        if (sum == null) {
            sum = BigInteger.ZERO;
            for (int c = 0; c < 4; c++) {
                BigInteger behind = within(plan, weights, plan.next[s][c], n - 1, known);
                sum = sum.add(behind.multiply(BigInteger.valueOf(weights[c])));
            }
            known.put(s * 100 + n, sum);
        }
        return sum;
    }

    private static void waysAndRuns(Plan plan) {
        FilmLooksBack x = plan.house(37, "WAYS of each n; RUN by each i");
        Map<Integer, Long> known = new HashMap<>();
        for (int s = 0; s < 13; s++) {
            for (int n = 0; n <= 12; n++) {
                Due.is("ways(" + s + ", " + n + ")", x.ways(s, n), just(plan, s, n, known));
            }
        }
        int[] at = new int[13];
        for (int s = 0; s < 13; s++) {
            at[s] = s;
        }
        for (int i = 0; i <= 12; i++) {
            for (int s = 0; s < 13; s++) {
                Due.is("run(" + s + ", " + i + ")", x.run(s, i), at[s]);
            }
            int c = plan.random.nextInt(4);
            x.cue(c);
            for (int s = 0; s < 13; s++) {
                at[s] = plan.next[at[s]][c];
            }
        }
    }

    private static long just(Plan plan, int s, int n, Map<Integer, Long> known) {
        if (n == 0 || s == 12) {
            return s == 12 && n == 0 ? 1 : 0;
        }
        Long sum = known.get(s * 100 + n);
        if (sum == null) {
            sum = 0L;
            for (int c = 0; c < 4; c++) {
                sum += just(plan, plan.next[s][c], n - 1, known);
            }
            known.put(s * 100 + n, sum);
        }
        return sum;
    }

    // ---------------------------------------------------------------- IV

    private static void sorts(Plan plan) {
        FilmLooksBack x = plan.house(29, "WHAT PARTS each two; LIKE SCENES");
        List<Integer> lowest = new ArrayList<>();
        for (int a = 0; a < 13; a++) {
            int sort = NONE;
            for (int b = 0; b < 13; b++) {
                int cues = parted(plan, a, b);
                Due.is("parts(" + a + ", " + b + ")", x.parts(a, b), cues);
                if (cues == NONE && sort == NONE) {
                    if (b == a) {
                        lowest.add(a);
                    }
                    sort = lowest.indexOf(b);
                }
            }
            Due.is("kinds(" + a + ")", x.kinds(a), sort);
        }
        Due.is("kinds(NONE)", x.kinds(NONE), lowest.size());
    }

    private static int parted(Plan plan, int a, int b) {
        List<int[]> pairs = new ArrayList<>(List.of(new int[] {a, b, 0}));
        Set<Integer> met = new TreeSet<>(List.of(a * 13 + b));
        for (int i = 0; i < pairs.size(); i++) {
            int[] two = pairs.get(i);
            if (plan.kindOf(two[0]) != plan.kindOf(two[1])) {
                return two[2];
            }
            for (int c = 0; c < 4; c++) {
                int[] then = {plan.next[two[0]][c], plan.next[two[1]][c], two[2] + 1};
                if (met.add(then[0] * 13 + then[1])) {
                    pairs.add(then);
                }
            }
        }
        return NONE;
    }

    private static void seventhRow(Plan plan) {
        FilmLooksBack x = plan.house(34, "SEVENTH ROW");
        Set<Integer> may = new TreeSet<>();
        for (int turn = 0; turn < 100; turn++) {
            if (may.isEmpty()) {
                for (int s = 0; s < 12; s++) {
                    may.add(s);
                }
                Due.is("look(NONE)", x.look(NONE), 4095);
            } else {
                int kind = plan.random.nextInt(4);
                Set<Integer> then = new TreeSet<>();
                int bits = 0;
                for (int s : may) {
                    for (int c = 0; c < 4 && plan.kind[s] == kind; c++) {
                        then.add(plan.next[s][c]);
                    }
                }
                then.remove(12);
                may = then;
                for (int s : may) {
                    bits += 1 << s;
                }
                Due.is("look(" + kind + ")", x.look(kind), bits);
            }
            Due.is("sure()", x.sure(), may.size() == 1 ? may.iterator().next() : NONE);
            Due.is("tells()", x.tells(), telling(plan, may));
        }
    }

    private static int telling(Plan plan, Set<Integer> may) {
        int found = NONE;
        int most = 0;
        for (int c = 0; c < 4; c++) {
            Set<Integer> kinds = new TreeSet<>();
            for (int s : may) {
                kinds.add(plan.kindOf(plan.next[s][c]));
            }
            if (kinds.size() > most) {
                most = kinds.size();
                found = c;
            }
        }
        return found;
    }

    // ---------------------------------------------------------------- rosters

    private static void roster(Random random, int shape) {
        int persons = shape == 4 ? 5 : random.nextInt(9);
        int[][] likes = new int[8][5];
        int[] most = {99, 1, 3, 12};
        for (int p = 0; p < 8; p++) {
            for (int e = 0; e < 5; e++) {
                likes[p][e] = shape == 4 ? 0 : random.nextInt(most[shape] + 1);
            }
        }
        if (shape == 4) {
            likeChain(random, likes);
        }
        FilmLooksBack x = Due.test(39, "ROSTER, " + Arrays.deepToString(likes));
        for (int p = 0; p < 8; p++) {
            for (int e = 0; e < 5; e++) {
                x.likes(p, e, likes[p][e]);
            }
        }
        for (int p = 0; p < persons; p++) {
            x.person(0, 0);
        }
        for (int k = 1; k <= 8; k++) {
            int[] due = bestRoster(likes, persons, k);
            Due.is("roster(" + k + ", NONE)", x.roster(k, NONE), due[8]);
            for (int p = 0; p < 8; p++) {
                Due.is("roster(" + k + ", " + p + ")", x.roster(k, p), due[p]);
            }
        }
    }

    /** Each likes its own EVENING a little more than the next, but one takes the first: all have to move on. */
    private static void likeChain(Random random, int[][] likes) {
        int[] evening = shuffled(random, 5);
        int[] person = shuffled(random, 4);
        for (int i = 0; i < 4; i++) {
            likes[person[i]][evening[i]] = 20 + random.nextInt(2);
            likes[person[i]][evening[i + 1]] = 18 + random.nextInt(2);
        }
        likes[4][evening[random.nextInt(2)]] = 70;
    }

    /** By how many sit on each EVENING: LIKES together and who sits when, the lowest of like ones; [8] is LIKES. */
    private static int[] bestRoster(int[][] likes, int persons, int k) {
        Map<List<Integer>, int[]> found = new HashMap<>();
        found.put(List.of(0, 0, 0, 0, 0), new int[9]);
        for (int p = 0; p < persons; p++) {
            Map<List<Integer>, int[]> more = new HashMap<>();
            for (Map.Entry<List<Integer>, int[]> entry : found.entrySet()) {
                for (int e = 0; e < 5; e++) {
                    List<Integer> sitting = new ArrayList<>(entry.getKey());
                    sitting.set(e, sitting.get(e) + 1);
                    int[] seats = entry.getValue().clone();
                    seats[p] = e;
                    seats[8] += likes[p][e];
                    if (sitting.get(e) <= k) {
                        more.merge(sitting, seats, AllSearches::better);
                    }
                }
            }
            found = more;
        }
        int[] best = null;
        for (int[] seats : found.values()) {
            best = best == null ? seats : better(best, seats);
        }
        int[] due = new int[9];
        Arrays.fill(due, NONE);
        if (best != null) {
            System.arraycopy(best, 0, due, 0, persons);
            due[8] = best[8];
        }
        return due;
    }

    private static int[] better(int[] a, int[] b) {
        if (a[8] != b[8]) {
            return a[8] > b[8] ? a : b;
        }
        return Arrays.compare(a, 0, 8, b, 0, 8) <= 0 ? a : b;
    }
}
