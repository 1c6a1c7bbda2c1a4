import java.math.BigInteger;
import java.util.ArrayDeque;
import java.util.ArrayList;
import java.util.Arrays;
import java.util.HashMap;
import java.util.HashSet;
import java.util.List;
import java.util.Map;
import java.util.Random;
import java.util.Set;
import java.util.TreeMap;

/**
 * Runs of 512 calls, drawn by fixed seeds, on the class and on a slow model that is written another way from the
 * document's words: objects copied whole, syntax read by a stack of what is still due, searches tried out.
 */
public final class AgainstModel {
    private static final int RUNS = 400;
    private static final int CALLS = 512;

    public static void main(String[] args) {
        Map<String, Integer> asked = new TreeMap<>();
        Map<Integer, Integer> faults = new TreeMap<>();
        for (int run = 0; run < RUNS; run++) {
            Driver driver = new Driver(run);
            for (int i = 0; i < CALLS; i++) {
                String wrong = driver.next(asked, faults);
                if (wrong != null) {
                    System.out.println("run " + run + ", call " + i + ": " + wrong);
                    for (String line : driver.told) {
                        System.out.println("  " + line);
                    }
                    System.exit(1);
                }
            }
        }
        // What was never asked was not tested.
        if (asked.size() != 48 || faults.size() != 7 || MET.containsValue(0)) {
            System.out.println("not all was tested: " + asked + ", faults " + faults + ", " + MET);
            System.exit(1);
        }
        System.out.println("the model answers alike: " + RUNS + " runs of " + CALLS + " calls");
    }

    static final Map<String, Integer> MET = new TreeMap<>();

    // ---------------------------------------------------------------- the model: what is

    /** What steps take back. */
    static final class Now {
        List<Integer> rows = new ArrayList<>();
        List<Integer> glad = new ArrayList<>();
        int[] next = new int[12];
        int[] shown = new int[12];
        int ended;
        int day;
        int x = 199;
        List<int[]> book = new ArrayList<>();

        Now copy() {
            Now c = new Now();
            c.rows = new ArrayList<>(rows);
            c.glad = new ArrayList<>(glad);
            c.next = next.clone();
            c.shown = shown.clone();
            c.ended = ended;
            c.day = day;
            c.x = x;
            c.book = new ArrayList<>(book);
            return c;
        }
    }

    /** A step: how it was ahead of it, and what was told since ({scene, next}, or {row}). */
    static final class Step {
        Now ahead;
        List<int[]> told = new ArrayList<>();

        Step copy() {
            Step c = new Step();
            c.ahead = ahead.copy();
            c.told = new ArrayList<>(told);
            return c;
        }
    }

    static final class All {
        Now now = new Now();
        List<Step> steps = new ArrayList<>();
        int[][] told = new int[12][4];
        int[] kinds = new int[12];
        List<Integer> plain = new ArrayList<>();
        List<TextModel.MText> texts = new ArrayList<>();
        int ruling = -1;
        List<Integer> row = new ArrayList<>();
        int[] odds = {7, 1, 1, 1};
        Set<Integer> seventh = new HashSet<>(everything());
        int[][] likes = new int[8][5];
        List<int[]> felt = new ArrayList<>();

        All copy() {
            All c = new All();
            c.now = now.copy();
            for (Step s : steps) {
                c.steps.add(s.copy());
            }
            for (int s = 0; s < 12; s++) {
                c.told[s] = told[s].clone();
            }
            c.kinds = kinds.clone();
            c.plain = new ArrayList<>(plain);
            c.texts = new ArrayList<>(texts);
            c.ruling = ruling;
            c.row = new ArrayList<>(row);
            c.odds = odds.clone();
            c.seventh = new HashSet<>(seventh);
            for (int p = 0; p < 8; p++) {
                c.likes[p] = likes[p].clone();
            }
            c.felt = new ArrayList<>(felt);
            return c;
        }
    }

    static Set<Integer> everything() {
        Set<Integer> all = new HashSet<>();
        for (int s = 0; s < 12; s++) {
            all.add(s);
        }
        return all;
    }

    static int bits(Set<Integer> of) {
        int bits = 0;
        for (int s : of) {
            bits += 1 << s;
        }
        return bits;
    }

    static boolean in(int n, int low, int high) {
        return low <= n && n <= high;
    }

    static final class Model {
        All a = new All();
        All image;
        List<Byte> tape = new ArrayList<>();
        int fault = -1;
        int place = -1;
        int scenes;
        int changes;

        Model() {
            for (int s = 0; s < 12; s++) {
                a.now.next[s] = s + 1;
                Arrays.fill(a.told[s], s + 1);
            }
            image = a.copy();
        }

        int follow(int s, int c) {
            return s == 12 ? 12 : c == 0 ? a.now.next[s] : a.told[s][c];
        }

        boolean scene(int s, int cue, int next) {
            if (!in(s, 0, 11) || !in(cue, 0, 3) || !in(next, 0, 12)) {
                return false;
            }
            a.told[s][cue] = next;
            if (cue == 0) {
                a.now.next[s] = next;
                for (Step step : a.steps) {
                    step.told.add(new int[] {s, next});
                }
            }
            return true;
        }

        boolean kind(int s, int kind) {
            if (!in(s, 0, 11) || !in(kind, 0, 3)) {
                return false;
            }
            a.kinds[s] = kind;
            return true;
        }

        int person(int plain, int row) {
            if (!in(plain, 0, 9) || !in(row, 0, 9) || a.plain.size() == 8) {
                return -1;
            }
            a.plain.add(plain);
            a.now.rows.add(row);
            a.now.glad.add(0);
            for (Step step : a.steps) {
                step.told.add(new int[] {row});
            }
            return a.plain.size() - 1;
        }

        int feed(int... five) {
            if (tape.size() + 20 > 300) {
                return -1;
            }
            for (int four : five) {
                for (byte b : java.nio.ByteBuffer.allocate(4).putInt(four).array()) {
                    tape.add(b);
                }
            }
            return tape.size();
        }

        int end(int n) {
            if (n < 0 || n > tape.size()) {
                return -1;
            }
            tape = new ArrayList<>(tape.subList(0, n));
            return n;
        }

        int text() {
            if (a.texts.size() == 4) {
                return -1;
            }
            byte[] bytes = new byte[tape.size()];
            for (int i = 0; i < bytes.length; i++) {
                bytes[i] = tape.get(i);
            }
            tape.clear();
            List<TextModel.Token> tokens = TextModel.tokens(bytes);
            try {
                TextModel.check(tokens);
            } catch (TextModel.Wrong w) {
                fault = w.fault;
                place = w.at;
                return -1;
            }
            fault = 0;
            place = -1;
            a.texts.add(new TextModel.MText(tokens));
            return a.texts.size() - 1;
        }

        int fault(int what) {
            return what == 0 ? fault : what == 1 ? place : -1;
        }

        boolean by(int text) {
            if (text < -1 || text >= a.texts.size()) {
                return false;
            }
            a.ruling = text;
            return true;
        }

        void step() {
            Step step = new Step();
            step.ahead = a.now.copy();
            a.steps.add(step);
            if (a.steps.size() > 30) {
                a.steps.remove(0);
            }
        }

        boolean seat(int p, int row) {
            if (!in(p, 0, a.plain.size() - 1) || !in(row, 0, 9) || a.now.rows.get(p) == row) {
                return false;
            }
            step();
            a.now.rows.set(p, row);
            return true;
        }

        boolean call(int s, int cue) {
            if (!in(s, 0, 11) || !in(cue, 1, 3) || a.now.next[s] == a.told[s][cue]) {
                return false;
            }
            step();
            a.now.next[s] = a.told[s][cue];
            return true;
        }

        boolean mend(int s) {
            if (!in(s, 0, 11) || a.now.next[s] == a.told[s][0]) {
                return false;
            }
            step();
            a.now.next[s] = a.told[s][0];
            return true;
        }

        boolean seen(int p) {
            return in(a.now.rows.get(p), 1, 6);
        }

        Map<String, Integer> known() {
            Map<String, Integer> known = new HashMap<>();
            int seen = 0;
            for (int p = 0; p < a.plain.size(); p++) {
                seen += seen(p) ? 1 : 0;
            }
            known.put("day", a.now.day);
            known.put("seen", seen);
            known.put("plain", front());
            return known;
        }

        long law(int text, String law, Map<String, Integer> known, long without, long high) {
            List<TextModel.Token> sum = text < 0 ? null : a.texts.get(text).laws.get(law);
            if (sum == null) {
                return without;
            }
            return Math.max(0, Math.min(high, TextModel.reckon(sum, known, a.kinds)));
        }

        int cueBy(int s, int shown, int draw) {
            Map<String, Integer> known = known();
            known.put("scene", s);
            known.put("shown", shown);
            known.put("draw", draw);
            return (int) law(a.ruling, "cues", known, draw >= 4 || known.get("seen") == 0 ? 0 : draw, 3);
        }

        int gladdens(int text, int p, int scenes) {
            Map<String, Integer> known = known();
            known.put("who", p);
            known.put("glad", a.now.glad.get(p));
            known.put("row", a.now.rows.get(p));
            known.put("long", scenes);
            return (int) law(text, "gladdens", known, a.plain.get(p), 99);
        }

        boolean hold() {
            if (a.now.day == 9999) {
                return false;
            }
            int s = 0;
            changes = 0;
            for (scenes = 0; scenes < 30 && s != 12; scenes++) {
                int shown = a.now.shown[s];
                a.now.shown[s] = Math.min(9999, shown + 1);
                int draw = a.now.x % 10;
                a.now.x = (a.now.x * 443 + 331) % 30577;
                int cue = cueBy(s, shown, draw);
                int next = follow(s, cue);
                Map<String, Integer> known = known();
                known.put("scene", s);
                known.put("cue", cue);
                known.put("next", next);
                if (cue != 0 && law(a.ruling, "stays", known, cue == 1 ? 1 : 0, 9) > 0 && a.now.next[s] != next) {
                    a.now.next[s] = next;
                    changes++;
                }
                s = next;
            }
            if (s == 12) {
                a.now.ended++;
                for (int p = 0; p < a.plain.size(); p++) {
                    if (seen(p)) {
                        a.now.glad.set(p, Math.min(99, a.now.glad.get(p) + gladdens(a.ruling, p, scenes)));
                    }
                }
            }
            a.now.book.add(new int[] {a.now.day, scenes, s == 12 ? 1 : 0, changes});
            if (a.now.book.size() > 30) {
                a.now.book.remove(0);
            }
            a.now.day++;
            return s == 12;
        }

        int evening(int n) {
            if (!in(n, 1, 40) || a.now.day + n > 9999) {
                return -1;
            }
            int ended = 0;
            for (int i = 0; i < n; i++) {
                step();
                ended += hold() ? 1 : 0;
            }
            return ended;
        }

        int played(int text) {
            if (!in(text, 0, a.texts.size() - 1)) {
                return -2;
            }
            List<List<TextModel.Token>> clauses = a.texts.get(text).clauses;
            for (int i = 0; i < clauses.size(); i++) {
                int[] n = clauses.get(i).stream().filter(t -> t.sort.equals("NUMBER")).mapToInt(t -> t.value).toArray();
                boolean can = true;
                switch (clauses.get(i).get(0).sort) {
                    case "scene":
                        can = scene(n[0], n[1], n[2]);
                        break;
                    case "kind":
                        can = kind(n[1], n[0]);
                        break;
                    case "person":
                        can = person(n[0], n[1]) >= 0;
                        break;
                    case "seat":
                        can = seat(n[0], n[1]);
                        break;
                    case "call":
                        can = call(n[0], n[1]);
                        break;
                    case "mend":
                        can = mend(n[0]);
                        break;
                    case "evening":
                        for (int k = 0; k < n[0]; k++) {
                            can = evening(1) >= 0;
                        }
                        break;
                    default:
                        break;
                }
                if (!can) {
                    return i;
                }
            }
            return -1;
        }

        int years(int seed, int n) {
            if (!in(seed, 0, 9999) || !in(n, 1, 40)) {
                return -1;
            }
            step();
            List<Step> steps = a.steps;
            a.steps = new ArrayList<>();
            a.now.x = seed * 2 + 199;
            for (int i = 0; i < n; i++) {
                int x = a.now.x;
                a.now.x = (x * 443 + 331) % 30577;
                if (x % 5 == 0 && !a.plain.isEmpty()) {
                    seat(x % a.plain.size(), x / 5 % 10);
                } else if (x % 5 == 1) {
                    call(x % 12, 1 + x % 3);
                } else if (x % 5 == 2) {
                    mend(x % 12);
                } else if (x % 5 > 2) {
                    hold();
                }
            }
            a.steps = steps;
            return a.now.day;
        }

        int undo() {
            if (a.steps.isEmpty()) {
                return -1;
            }
            Step step = a.steps.remove(a.steps.size() - 1);
            a.now = step.ahead;
            for (int[] told : step.told) {
                if (told.length == 2) {
                    a.now.next[told[0]] = told[1];
                } else {
                    a.now.rows.add(told[0]);
                    a.now.glad.add(0);
                }
            }
            return a.steps.size();
        }

        int of(int p, int what) {
            if (!in(p, 0, a.plain.size() - 1) || !in(what, 0, 3)) {
                return -1;
            }
            return what == 0 ? a.plain.get(p) : what == 1 ? a.now.rows.get(p) : what == 2 ? a.now.glad.get(p)
                    : gladdens(a.ruling, p, 1);
        }

        int ofScene(int s, int what) {
            if (!in(s, 0, 11) || !in(what, 0, 7)) {
                return -1;
            }
            return what < 4 ? follow(s, what) : what == 4 ? a.told[s][0] : what == 5 ? a.kinds[s]
                    : what == 6 ? a.now.shown[s] : cueBy(s, a.now.shown[s], 0);
        }

        int is(int what) {
            int seen = 0;
            for (int p = 0; p < a.plain.size(); p++) {
                seen += seen(p) ? 1 << p : 0;
            }
            return what == 0 ? a.now.day : what == 1 ? a.now.x : what == 2 ? seen : what == 3 ? a.now.ended : -2;
        }

        int book(int i, int what) {
            if (i == -1) {
                return a.now.book.size();
            }
            return in(i, 0, a.now.book.size() - 1) && in(what, 0, 3) ? a.now.book.get(i)[what] : -2;
        }

        int foretold(int n, int what) {
            if (!in(n, 1, 40) || !in(what, 0, 2)) {
                return -1;
            }
            Now now = a.now;
            a.now = now.copy();
            int ended = 0;
            int all = 0;
            scenes = 0;
            for (int i = 0; i < n && a.now.day < 9999; i++) {
                ended += hold() ? 1 : 0;
                all += changes;
            }
            a.now = now;
            return what == 0 ? ended : what == 1 ? scenes : all;
        }

        int cue(int c) {
            if (c == -1) {
                a.row.clear();
                return 0;
            }
            if (!in(c, 0, 3) || a.row.size() == 12) {
                return -2;
            }
            a.row.add(c);
            return a.row.size();
        }

        int run(int s, int i) {
            if (!in(s, 0, 12) || !in(i, 0, a.row.size())) {
                return -1;
            }
            return i == 0 ? s : follow(run(s, i - 1), a.row.get(i - 1));
        }

        /** The first way found: shorter ones are tried ahead of longer ones, lower cues ahead of higher. */
        List<Integer> way(int from, int to) {
            List<List<Integer>> ways = new ArrayList<>();
            List<Integer> at = new ArrayList<>();
            ways.add(new ArrayList<>());
            at.add(from);
            Set<Integer> been = new HashSet<>(at);
            for (int i = 0; i < ways.size(); i++) {
                if (at.get(i) == to) {
                    return ways.get(i);
                }
                for (int c = 0; c < 4; c++) {
                    int next = follow(at.get(i), c);
                    if (been.add(next)) {
                        List<Integer> longer = new ArrayList<>(ways.get(i));
                        longer.add(c);
                        ways.add(longer);
                        at.add(next);
                    }
                }
            }
            return null;
        }

        int shortest(int from, int to, int i) {
            List<Integer> way = in(from, 0, 12) && in(to, 0, 12) ? way(from, to) : null;
            if (way == null) {
                return -2;
            }
            return i == -1 ? way.size() : in(i, 0, way.size() - 1) ? way.get(i) : -2;
        }

        /** Whether THE END can be had within k cues, for each k up to 40. */
        boolean[][][] had() {
            boolean[][][] had = new boolean[41][2][13];
            for (int k = 0; k <= 40; k++) {
                for (int who = 0; who < 2; who++) {
                    for (int s = 0; s < 13; s++) {
                        int ways = 0;
                        for (int c = 0; c < 4 && k > 0; c++) {
                            ways += had[k - 1][1 - who][follow(s, c)] ? 1 : 0;
                        }
                        had[k][who][s] = s == 12 || ways >= (who == 1 ? 1 : 4);
                    }
                }
            }
            return had;
        }

        int within(boolean[][][] had, int who, int s) {
            for (int k = 0; k <= 40; k++) {
                if (had[k][who][s]) {
                    return k;
                }
            }
            return -1;
        }

        int soonest(int s, boolean first) {
            return in(s, 0, 12) ? within(had(), first ? 1 : 0, s) : -2;
        }

        int best(int s, boolean first) {
            if (!in(s, 0, 11)) {
                return -1;
            }
            boolean[][][] had = had();
            int whole = within(had, first ? 1 : 0, s);
            if (whole < 0 && first) {
                return -1;
            }
            for (int c = 0; c < 4; c++) {
                int behind = within(had, first ? 0 : 1, follow(s, c));
                if (whole < 0 ? behind < 0 : behind == whole - 1) {
                    return c;
                }
            }
            throw new IllegalStateException();
        }

        long odds(int s, int n, boolean low) {
            if (!in(s, 0, 12) || !in(n, 0, 9)) {
                return -1;
            }
            BigInteger whole = BigInteger.TEN.pow(n);
            BigInteger up = weight(s, n, new HashMap<>());
            BigInteger common = up.gcd(whole);
            return (low ? whole : up).divide(common).longValueExact();
        }

        BigInteger weight(int s, int n, Map<Integer, BigInteger> found) {
            if (s == 12 || n == 0) {
                return s == 12 ? BigInteger.TEN.pow(n) : BigInteger.ZERO;
            }
            if (!found.containsKey(s * 100 + n)) {
                BigInteger sum = BigInteger.ZERO;
                for (int c = 0; c < 4; c++) {
                    sum = sum.add(weight(follow(s, c), n - 1, found).multiply(BigInteger.valueOf(a.odds[c])));
                }
                found.put(s * 100 + n, sum);
            }
            return found.get(s * 100 + n);
        }

        boolean weigh(int... odds) {
            for (int o : odds) {
                if (!in(o, 0, 10)) {
                    return false;
                }
            }
            if (Arrays.stream(odds).sum() != 10) {
                return false;
            }
            a.odds = odds;
            return true;
        }

        int kindAt(int s) {
            return s == 12 ? 4 : a.kinds[s];
        }

        /** By pairs: how many cues part them, -1 where none do. */
        int parts(int s, int t) {
            if (!in(s, 0, 12) || !in(t, 0, 12)) {
                return -1;
            }
            Set<Integer> pairs = new HashSet<>(List.of(s * 13 + t));
            for (int cues = 0; cues < 170; cues++) {
                Set<Integer> then = new HashSet<>();
                for (int pair : pairs) {
                    if (kindAt(pair / 13) != kindAt(pair % 13)) {
                        return cues;
                    }
                    for (int c = 0; c < 4; c++) {
                        then.add(follow(pair / 13, c) * 13 + follow(pair % 13, c));
                    }
                }
                pairs = then;
            }
            return -1;
        }

        int kinds(int what) {
            if (!in(what, -1, 12)) {
                return -2;
            }
            List<Integer> lowest = new ArrayList<>();
            for (int s = 0; s < 13; s++) {
                int sort = 0;
                while (sort < lowest.size() && parts(s, lowest.get(sort)) >= 0) {
                    sort++;
                }
                if (sort == lowest.size()) {
                    lowest.add(s);
                }
                if (s == what) {
                    return sort;
                }
            }
            return lowest.size();
        }

        int round(int s) {
            if (!in(s, 0, 11)) {
                return -1;
            }
            for (int c = 0; c < 4; c++) {
                if (way(follow(s, c), s) != null) {
                    return 1;
                }
            }
            return 0;
        }

        int dead() {
            int bits = 0;
            for (int s = 0; s < 12; s++) {
                bits += way(s, 12) == null ? 1 << s : 0;
            }
            return bits;
        }

        int far() {
            int far = -1;
            int cues = -1;
            for (int s = 0; s < 12; s++) {
                List<Integer> way = way(s, 12);
                if (way != null && way.size() > cues) {
                    far = s;
                    cues = way.size();
                }
            }
            return far;
        }

        int look(int kind) {
            if (!in(kind, -1, 3)) {
                return -2;
            }
            if (kind == -1) {
                a.seventh = everything();
                return 4095;
            }
            Set<Integer> then = new HashSet<>();
            for (int s : a.seventh) {
                for (int c = 0; c < 4 && a.kinds[s] == kind; c++) {
                    then.add(follow(s, c));
                }
            }
            then.remove(12);
            a.seventh = then;
            return bits(then);
        }

        int sure() {
            return a.seventh.size() == 1 ? a.seventh.iterator().next() : -1;
        }

        int tells() {
            int best = -1;
            int most = 0;
            for (int c = 0; c < 4; c++) {
                Set<Integer> kinds = new HashSet<>();
                for (int s : a.seventh) {
                    kinds.add(kindAt(follow(s, c)));
                }
                if (kinds.size() > most) {
                    most = kinds.size();
                    best = c;
                }
            }
            return best;
        }

        long ways(int s, int n) {
            if (!in(s, 0, 12) || !in(n, 0, 12)) {
                return -1;
            }
            Map<Integer, Long> at = new HashMap<>(Map.of(s, 1L));
            for (int k = 0; k < n; k++) {
                Map<Integer, Long> then = new HashMap<>();
                for (int from : at.keySet()) {
                    for (int c = 0; c < 4 && from != 12; c++) {
                        then.merge(follow(from, c), at.get(from), Long::sum);
                    }
                }
                at = then;
            }
            return at.getOrDefault(12, 0L);
        }

        boolean likes(int p, int e, int likes) {
            if (!in(p, 0, 7) || !in(e, 0, 4) || !in(likes, 0, 99)) {
                return false;
            }
            a.likes[p][e] = likes;
            return true;
        }

        int most;
        int[] chosen;

        int roster(int k, int p) {
            int n = a.plain.size();
            if (!in(k, 1, 8) || !in(p, -1, n - 1) || n > 5 * k) {
                return -1;
            }
            most = -1;
            tryRoster(new int[n], 0, new int[5], k, 0);
            return p == -1 ? most : chosen[p];
        }

        void tryRoster(int[] choice, int p, int[] sits, int k, int sum) {
            if (p == choice.length) {
                if (sum > most) {
                    most = sum;
                    chosen = choice.clone();
                }
                return;
            }
            for (int e = 0; e < 5; e++) {
                if (sits[e] < k) {
                    sits[e]++;
                    choice[p] = e;
                    tryRoster(choice, p + 1, sits, k, sum + a.likes[p][e]);
                    sits[e]--;
                }
            }
        }

        int felt(int p, int glad) {
            if (p == -1) {
                a.felt.clear();
                return 0;
            }
            if (!in(p, 0, a.plain.size() - 1) || !in(glad, 0, 99) || a.felt.size() == 8) {
                return -2;
            }
            a.felt.add(new int[] {p, glad});
            return a.felt.size();
        }

        int whose() {
            int bits = 0;
            for (int t = 0; t < a.texts.size(); t++) {
                int text = t;
                bits += a.felt.stream().allMatch(f -> gladdens(text, f[0], 1) == f[1]) ? 1 << t : 0;
            }
            return bits;
        }

        int gladdest() {
            int best = -1;
            for (int p = a.plain.size() - 1; p >= 0; p--) {
                best = best < 0 || a.now.glad.get(p) >= a.now.glad.get(best) ? p : best;
            }
            return best;
        }

        int often() {
            int best = 11;
            for (int s = 10; s >= 0; s--) {
                best = a.now.shown[s] >= a.now.shown[best] ? s : best;
            }
            return best;
        }

        int changed() {
            int bits = 0;
            for (int s = 0; s < 12; s++) {
                bits += a.now.next[s] != a.told[s][0] ? 1 << s : 0;
            }
            return bits;
        }

        int front() {
            int sum = 0;
            for (int p = 0; p < a.plain.size(); p++) {
                sum += seen(p) ? a.plain.get(p) : 0;
            }
            return sum;
        }

        int ledger(boolean ended) {
            return (int) a.now.book.stream().filter(b -> b[2] == (ended ? 1 : 0)).count();
        }

        int image() {
            image = a.copy();
            return a.now.day;
        }

        int back() {
            a = image.copy();
            return a.now.day;
        }

        int about(int what) {
            int[] all = {a.plain.size(), a.texts.size(), a.ruling, a.steps.size(), a.row.size(), a.felt.size(),
                tape.size()};
            return in(what, 0, 6) ? all[what] : -2;
        }
    }

    // ---------------------------------------------------------------- both at once

    static final class Driver {
        final Random r;
        final TextWriter writer;
        final FilmLooksBack x = new FilmLooksBack();
        final Model m = new Model();
        final List<String> told = new ArrayList<>();
        final ArrayDeque<Runnable> later = new ArrayDeque<>();
        final int way;
        String wrong;
        Map<String, Integer> asked;

        Driver(int seed) {
            r = new Random(seed * 7919L + 13);
            writer = new TextWriter(r);
            way = seed % 4;
        }

        void met(String what, boolean yes) {
            MET.merge(what, yes ? 1 : 0, Integer::sum);
        }

        void same(String call, long got, long due) {
            told.add(call + " = " + due);
            asked.merge(call.substring(0, call.indexOf('(')), 1, Integer::sum);
            if (got != due) {
                wrong = call + " answered " + got + ", the model " + due;
            }
        }

        void same(String call, boolean got, boolean due) {
            same(call, got ? 1 : 0, due ? 1 : 0);
        }

        /** Mostly low .. high, now and then one beside. */
        int num(int low, int high) {
            int odd = r.nextInt(40);
            if (odd == 0) {
                return low - 1;
            }
            if (odd == 1) {
                return high + 1;
            }
            if (odd == 2) {
                int[] wild = {Integer.MIN_VALUE, Integer.MAX_VALUE, -2, 100};
                return wild[r.nextInt(4)];
            }
            return low + r.nextInt(high - low + 1);
        }

        void writeText() {
            String text = writer.text(way == 3 ? 150 : 220);
            if (r.nextInt(3) == 0) {
                text = writer.spoilt(text);
            }
            if (r.nextInt(6) == 0) {
                text = writer.wrongAtOnePlace();
            }
            if (way == 2 && r.nextInt(2) == 0) {
                StringBuilder many = new StringBuilder();
                for (int i = 0; i < 23; i++) {
                    many.append("evening 40;");
                }
                text = many.toString();
            }
            byte[] bytes = text.getBytes(java.nio.charset.StandardCharsets.ISO_8859_1);
            bytes = Arrays.copyOf(bytes, Math.min(300, bytes.length));
            int length = bytes.length;
            later.add(() -> same("end(0)", x.end(0), m.end(0)));
            for (int at = 0; at < length; at += 20) {
                int[] w = new int[5];
                for (int i = 0; i < 20; i++) {
                    int b = at + i < length ? bytes[at + i] & 255 : 0;
                    w[i / 4] = w[i / 4] << 8 | b;
                }
                later.add(() -> same("feed(" + w[0] + ", " + w[1] + ", " + w[2] + ", " + w[3] + ", " + w[4] + ")",
                        x.feed(w[0], w[1], w[2], w[3], w[4]), m.feed(w)));
            }
            String said = text;
            later.add(() -> same("end(" + length + ")", x.end(length), m.end(length)));
            later.add(() -> same("text() /* " + said + " */", x.text(), m.text()));
            later.add(() -> same("fault(0)", x.fault(0), m.fault(0)));
            later.add(() -> same("fault(1)", x.fault(1), m.fault(1)));
        }

        String next(Map<String, Integer> asked, Map<Integer, Integer> faults) {
            this.asked = asked;
            met("day 9999", m.a.now.day == 9999);
            met("shown 9999", m.a.now.shown[0] == 9999);
            met("glad 99", m.a.now.glad.contains(99));
            met("eight persons", m.a.plain.size() == 8);
            met("four texts", m.a.texts.size() == 4);
            met("30 steps", m.a.steps.size() == 30);
            met("30 evenings in the book", m.a.now.book.size() == 30);
            met("the seventh row is sure", m.a.seventh.size() == 1);
            met("seventh none", m.a.seventh.isEmpty());
            met("felt 8", m.a.felt.size() == 8);
            if (!later.isEmpty()) {
                later.poll().run();
                if (told.get(told.size() - 1).startsWith("fault(0)")) {
                    faults.merge(m.fault(0), 1, Integer::sum);
                }
            } else {
                int pick = m.a.seventh.isEmpty() && r.nextInt(8) == 0 ? 100 : r.nextInt(100);
                if (pick == 100) {
                    same("look(-1)", x.look(-1), m.look(-1));
                } else if (pick < 30) {
                    tell();
                } else if (pick < 50) {
                    act();
                } else if (pick < 75) {
                    see();
                } else {
                    search();
                }
            }
            return wrong;
        }

        void tell() {
            int a = num(0, 11);
            int b = num(0, 3);
            int c = num(0, 12);
            int p = num(0, Math.max(1, m.a.plain.size()) - 1);
            switch (r.nextInt(11)) {
                case 0:
                case 1:
                    same("scene(" + a + ", " + b + ", " + c + ")", x.scene(a, b, c), m.scene(a, b, c));
                    break;
                case 2:
                    same("kind(" + a + ", " + b + ")", x.kind(a, b), m.kind(a, b));
                    break;
                case 3:
                    int plain = num(0, 9);
                    int row = num(0, 9);
                    same("person(" + plain + ", " + row + ")", x.person(plain, row), m.person(plain, row));
                    break;
                case 4:
                    writeText();
                    later.poll().run();
                    break;
                case 5:
                    int t = num(-1, Math.max(0, m.a.texts.size() - 1));
                    same("by(" + t + ")", x.by(t), m.by(t));
                    break;
                case 6:
                    int q = num(0, 7);
                    int e = num(0, 4);
                    int l = r.nextInt(3) == 0 ? num(0, 99) : num(0, 3);
                    same("likes(" + q + ", " + e + ", " + l + ")", x.likes(q, e, l), m.likes(q, e, l));
                    break;
                case 7:
                    int g = r.nextBoolean() ? num(0, 99) : Math.max(0, m.of(p, 3));
                    int who = r.nextInt(6) == 0 ? -1 : p;
                    same("felt(" + who + ", " + g + ")", x.felt(who, g), m.felt(who, g));
                    break;
                case 8:
                    int w = r.nextInt(11);
                    int v = r.nextInt(11 - w);
                    int u = r.nextInt(11 - w - v);
                    int z = 10 - w - v - u + (r.nextInt(5) == 0 ? 1 : 0);
                    same("weigh(" + w + ", " + v + ", " + u + ", " + z + ")", x.weigh(w, v, u, z), m.weigh(w, v, u, z));
                    break;
                case 9:
                    int cue = r.nextInt(9) == 0 ? -1 : num(0, 3);
                    same("cue(" + cue + ")", x.cue(cue), m.cue(cue));
                    break;
                default:
                    int n = num(0, Math.max(0, m.tape.size()));
                    if (r.nextInt(3) == 0) {
                        same("end(" + n + ")", x.end(n), m.end(n));
                    } else {
                        same("feed(" + a + ", " + b + ", " + c + ", 1, 2)", x.feed(a, b, c, 1, 2), m.feed(a, b, c, 1, 2));
                    }
                    break;
            }
        }

        void act() {
            int p = num(0, Math.max(1, m.a.plain.size()) - 1);
            int s = num(0, 11);
            switch (r.nextInt(way == 1 ? 11 : 13)) {
                case 0:
                case 1:
                    int row = num(0, 9);
                    same("seat(" + p + ", " + row + ")", x.seat(p, row), m.seat(p, row));
                    break;
                case 2:
                case 3:
                    int c = num(1, 3);
                    same("call(" + s + ", " + c + ")", x.call(s, c), m.call(s, c));
                    break;
                case 4:
                    same("mend(" + s + ")", x.mend(s), m.mend(s));
                    break;
                case 5:
                    int n = r.nextInt(3) == 0 ? num(1, 40) : num(1, 3);
                    same("evening(" + n + ")", x.evening(n), m.evening(n));
                    break;
                case 6:
                    int t = num(0, Math.max(0, m.a.texts.size() - 1));
                    same("played(" + t + ")", x.played(t), m.played(t));
                    break;
                case 7:
                    int seed = r.nextInt(4) == 0 ? num(0, 9999) : num(0, 99);
                    int times = num(1, 40);
                    same("years(" + seed + ", " + times + ")", x.years(seed, times), m.years(seed, times));
                    break;
                case 8:
                case 9:
                case 10:
                    same("undo()", x.undo(), m.undo());
                    break;
                case 11:
                    same("image()", x.image(), m.image());
                    break;
                default:
                    if (way == 2 && r.nextInt(10) != 0) {
                        int longest = Math.max(0, m.a.texts.size() - 1);
                        same("played(" + longest + ")", x.played(longest), m.played(longest));
                    } else {
                        same("back()", x.back(), m.back());
                    }
                    break;
            }
        }

        void see() {
            int s = num(0, 11);
            int what = num(0, 3);
            switch (r.nextInt(15)) {
                case 0:
                case 1:
                    int p = num(0, Math.max(1, m.a.plain.size()) - 1);
                    same("of(" + p + ", " + what + ")", x.of(p, what), m.of(p, what));
                    break;
                case 2:
                case 3:
                    int w = num(0, 7);
                    same("ofScene(" + s + ", " + w + ")", x.ofScene(s, w), m.ofScene(s, w));
                    break;
                case 4:
                    same("is(" + what + ")", x.is(what), m.is(what));
                    break;
                case 5:
                case 6:
                    int i = num(-1, Math.max(0, m.a.now.book.size() - 1));
                    same("book(" + i + ", " + what + ")", x.book(i, what), m.book(i, what));
                    break;
                case 7:
                    int n = num(1, 40);
                    int of = num(0, 2);
                    same("foretold(" + n + ", " + of + ")", x.foretold(n, of), m.foretold(n, of));
                    break;
                case 8:
                    same("whose()", x.whose(), m.whose());
                    break;
                case 9:
                    same("gladdest()", x.gladdest(), m.gladdest());
                    break;
                case 10:
                    same("often()", x.often(), m.often());
                    break;
                case 11:
                    same("changed()", x.changed(), m.changed());
                    break;
                case 12:
                    boolean ended = r.nextBoolean();
                    same("ledger(" + ended + ")", x.ledger(ended), m.ledger(ended));
                    break;
                case 13:
                    same("front()", x.front(), m.front());
                    break;
                default:
                    int which = num(0, 6);
                    same("about(" + which + ")", x.about(which), m.about(which));
                    break;
            }
        }

        void search() {
            int s = num(0, 12);
            int t = num(0, 12);
            boolean which = r.nextBoolean();
            switch (r.nextInt(16)) {
                case 0:
                    int i = num(0, Math.max(0, m.a.row.size()));
                    same("run(" + s + ", " + i + ")", x.run(s, i), m.run(s, i));
                    break;
                case 1:
                case 2:
                    int k = num(-1, 4);
                    same("shortest(" + s + ", " + t + ", " + k + ")", x.shortest(s, t, k), m.shortest(s, t, k));
                    break;
                case 3:
                    same("soonest(" + s + ", " + which + ")", x.soonest(s, which), m.soonest(s, which));
                    break;
                case 4:
                    same("best(" + s + ", " + which + ")", x.best(s, which), m.best(s, which));
                    break;
                case 5:
                    int n = num(0, 9);
                    same("odds(" + s + ", " + n + ", " + which + ")", x.odds(s, n, which), m.odds(s, n, which));
                    break;
                case 6:
                    int w = num(-1, 12);
                    same("kinds(" + w + ")", x.kinds(w), m.kinds(w));
                    break;
                case 7:
                    same("parts(" + s + ", " + t + ")", x.parts(s, t), m.parts(s, t));
                    break;
                case 8:
                    same("round(" + s + ")", x.round(s), m.round(s));
                    break;
                case 9:
                    same("dead()", x.dead(), m.dead());
                    break;
                case 10:
                    same("far()", x.far(), m.far());
                    break;
                case 11:
                    int kind = num(-1, 3);
                    same("look(" + kind + ")", x.look(kind), m.look(kind));
                    break;
                case 12:
                    same("sure()", x.sure(), m.sure());
                    break;
                case 13:
                    same("tells()", x.tells(), m.tells());
                    break;
                case 14:
                    int long12 = num(0, 12);
                    same("ways(" + s + ", " + long12 + ")", x.ways(s, long12), m.ways(s, long12));
                    break;
                default:
                    int many = r.nextInt(2) == 0 ? num(1, 2) : num(1, 8);
                    int p = num(-1, Math.max(1, m.a.plain.size()) - 1);
                    same("roster(" + many + ", " + p + ")", x.roster(many, p), m.roster(many, p));
                    break;
            }
        }
    }
}
