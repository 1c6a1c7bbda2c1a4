import java.math.BigInteger;
import java.util.ArrayDeque;
import java.util.ArrayList;
import java.util.Arrays;
import java.util.HashMap;
import java.util.HashSet;
import java.util.List;
import java.util.Map;
import java.util.Set;

/** A slow model of TEXTS: syntax read by a stack of what is still due, sums reckoned from the TOKENS anew each time. */
final class TextModel {
    private TextModel() {
    }

    static final class Token {
        String sort;
        String sign;
        int value;
        int at;
    }

    static final class Wrong extends RuntimeException {
        final int fault;
        final int at;

        Wrong(int fault, int at) {
            super(null, null, false, false);
            this.fault = fault;
            this.at = at;
        }
    }

    static final List<String> NAMES = List.of("day", "seen", "plain", "scene", "shown", "draw", "cue", "next", "who",
            "glad", "row", "long");
    static final Map<String, List<String>> NAMES_OF = Map.of(
            "cues", List.of("day", "seen", "plain", "scene", "shown", "draw"),
            "stays", List.of("day", "seen", "plain", "scene", "cue", "next"),
            "gladdens", List.of("day", "seen", "plain", "who", "glad", "row", "long"));
    static final Map<String, String[]> ORDERS = Map.of(
            "scene", new String[] {"0..11", "by", "0..3", "to", "0..12"},
            "kind", new String[] {"0..3", "of", "0..11"},
            "person", new String[] {"0..9", "row", "0..9"},
            "seat", new String[] {"0..7", "in", "0..9"},
            "call", new String[] {"0..11", "by", "1..3"},
            "mend", new String[] {"0..11"},
            "evening", new String[] {"1..40"});
    static final List<String> RELATIONS = List.of("<", "<=", ">", ">=", "=", "#");

    static List<Token> tokens(byte[] bytes) {
        String all = new String(bytes, java.nio.charset.StandardCharsets.ISO_8859_1);
        java.util.regex.Matcher m = java.util.regex.Pattern
                .compile("[ \n]|([a-zA-Z]+)|([0-9]+)|(<=|>=|[<>=#+\\-*/%();])|([\\s\\S])").matcher(all);
        List<Token> found = new ArrayList<>();
        while (m.find()) {
            Token t = new Token();
            t.at = m.start();
            t.sign = m.group();
            if (m.group(1) != null || m.group(3) != null) {
                t.sort = t.sign;
            } else if (m.group(2) != null) {
                t.sort = "NUMBER";
                BigInteger big = new BigInteger(t.sign);
                t.value = big.compareTo(BigInteger.valueOf(100000)) > 0 ? 100000 : big.intValue();
            } else if (m.group(4) != null) {
                t.sort = "NOTHING";
            } else {
                continue;
            }
            found.add(t);
        }
        Token end = new Token();
        end.sort = "END";
        end.sign = "";
        end.at = bytes.length;
        found.add(end);
        return found;
    }

    /** Syntax by what is still due, the next on top; "*)" marks one of ( not kinds if - that is open. */
    static void check(List<Token> tokens) {
        ArrayDeque<String> due = new ArrayDeque<>();
        Set<String> laws = new HashSet<>();
        String law = "";
        int clauses = 0;
        due.push("TEXT");
        for (Token t : tokens) {
            boolean taken = false;
            while (!taken) {
                if (due.isEmpty()) {
                    throw new IllegalStateException();
                }
                String top = due.pop();
                switch (top) {
                    case "TEXT":
                        if (t.sort.equals("END")) {
                            return;
                        }
                        boolean isLaw = NAMES_OF.containsKey(t.sort);
                        if (!isLaw && !ORDERS.containsKey(t.sort)) {
                            throw new Wrong(1, t.at);
                        }
                        if (isLaw && !laws.add(t.sort)) {
                            throw new Wrong(4, t.at);
                        }
                        if (clauses == 24) {
                            throw new Wrong(6, t.at);
                        }
                        clauses++;
                        law = t.sort;
                        due.push("TEXT");
                        due.push(";");
                        if (isLaw) {
                            due.push("SUM");
                        } else {
                            String[] parts = ORDERS.get(t.sort);
                            for (int i = parts.length - 1; i >= 0; i--) {
                                due.push(parts[i]);
                            }
                        }
                        taken = true;
                        break;
                    case "SUM":
                        due.push("MORE+");
                        due.push("PRODUCT");
                        break;
                    case "MORE+":
                        if (t.sort.equals("+") || t.sort.equals("-")) {
                            due.push("MORE+");
                            due.push("PRODUCT");
                            taken = true;
                        }
                        break;
                    case "PRODUCT":
                        due.push("MORE*");
                        due.push("ONE");
                        break;
                    case "MORE*":
                        if (t.sort.equals("*") || t.sort.equals("/") || t.sort.equals("%")) {
                            due.push("MORE*");
                            due.push("ONE");
                            taken = true;
                        }
                        break;
                    case "EITHER":
                        due.push("MOREor");
                        due.push("BOTH");
                        break;
                    case "MOREor":
                        if (t.sort.equals("or")) {
                            due.push("MOREor");
                            due.push("BOTH");
                            taken = true;
                        }
                        break;
                    case "BOTH":
                        due.push("MOREand");
                        due.push("ASK");
                        break;
                    case "MOREand":
                        if (t.sort.equals("and")) {
                            due.push("MOREand");
                            due.push("ASK");
                            taken = true;
                        }
                        break;
                    case "ASK":
                        if (t.sort.equals("not")) {
                            open(due, t, "ASK");
                            taken = true;
                        } else {
                            due.push("SUM");
                            due.push("RELATION");
                            due.push("SUM");
                        }
                        break;
                    case "RELATION":
                        if (!RELATIONS.contains(t.sort)) {
                            throw new Wrong(1, t.at);
                        }
                        taken = true;
                        break;
                    case "ONE":
                        one(due, t, law);
                        taken = true;
                        break;
                    case "*)":
                        break;
                    default:
                        if (top.contains("..")) {
                            if (!t.sort.equals("NUMBER")) {
                                throw new Wrong(1, t.at);
                            }
                            String[] limits = top.split("\\.\\.");
                            if (t.value < Integer.parseInt(limits[0]) || t.value > Integer.parseInt(limits[1])) {
                                throw new Wrong(2, t.at);
                            }
                        } else if (!top.equals(t.sort)) {
                            throw new Wrong(1, t.at);
                        }
                        taken = true;
                        break;
                }
            }
        }
    }

    static void one(ArrayDeque<String> due, Token t, String law) {
        if (t.sort.equals("NUMBER")) {
            if (t.value > 9999) {
                throw new Wrong(2, t.at);
            }
        } else if (NAMES.contains(t.sort)) {
            if (!NAMES_OF.get(law).contains(t.sort)) {
                throw new Wrong(5, t.at);
            }
        } else if (t.sort.equals("(")) {
            open(due, t, "SUM", ")");
        } else if (t.sort.equals("-") || t.sort.equals("kinds")) {
            open(due, t, "ONE");
        } else if (t.sort.equals("if")) {
            open(due, t, "EITHER", "then", "SUM", "else", "SUM", "end");
        } else {
            throw new Wrong(1, t.at);
        }
    }

    static void open(ArrayDeque<String> due, Token t, String... then) {
        int open = 0;
        for (String d : due) {
            open += d.equals("*)") ? 1 : 0;
        }
        if (open >= 8) {
            throw new Wrong(3, t.at);
        }
        due.push("*)");
        for (int i = then.length - 1; i >= 0; i--) {
            due.push(then[i]);
        }
    }

    /** A text that is right, as its tokens; laws are reckoned from the tokens anew each time. */
    static final class MText {
        final List<List<Token>> clauses = new ArrayList<>();
        final Map<String, List<Token>> laws = new HashMap<>();

        MText(List<Token> tokens) {
            List<Token> clause = new ArrayList<>();
            for (Token t : tokens) {
                if (t.sort.equals(";")) {
                    clauses.add(clause);
                    if (NAMES_OF.containsKey(clause.get(0).sort)) {
                        laws.put(clause.get(0).sort, clause.subList(1, clause.size()));
                    }
                    clause = new ArrayList<>();
                } else {
                    clause.add(t);
                }
            }
        }
    }

    /** Splits at the last sign of the weakest binding that is not enclosed: so all goes from the left. */
    static long reckon(List<Token> sum, Map<String, Integer> known, int[] kinds) {
        int cut = cutAt(sum, "+", "-");
        if (cut < 0) {
            cut = cutAt(sum, "*", "/", "%");
        }
        if (cut >= 0) {
            long a = reckon(sum.subList(0, cut), known, kinds);
            long b = reckon(sum.subList(cut + 1, sum.size()), known, kinds);
            switch (sum.get(cut).sort) {
                case "+":
                    return limit(a + b);
                case "-":
                    return limit(a - b);
                case "*":
                    return limit(a * b);
                case "/":
                    return b == 0 ? 0 : limit(a / b);
                default:
                    return b == 0 ? 0 : limit(a - a / b * b);
            }
        }
        Token head = sum.get(0);
        List<Token> rest = sum.subList(1, sum.size());
        switch (head.sort) {
            case "NUMBER":
                return head.value;
            case "(":
                return reckon(rest.subList(0, rest.size() - 1), known, kinds);
            case "-":
                return -reckon(rest, known, kinds);
            case "kinds":
                long s = reckon(rest, known, kinds);
                return s >= 0 && s < 12 ? kinds[(int) s] : 0;
            case "if":
                int then = enclosed(rest, "then");
                int or = enclosed(rest, "else");
                boolean yes = ask(rest.subList(0, then), known, kinds);
                return yes ? reckon(rest.subList(then + 1, or), known, kinds)
                        : reckon(rest.subList(or + 1, rest.size() - 1), known, kinds);
            default:
                return known.get(head.sort);
        }
    }

    static boolean ask(List<Token> asked, Map<String, Integer> known, int[] kinds) {
        int or = cutAt(asked, "or");
        if (or >= 0) {
            return ask(asked.subList(0, or), known, kinds) | ask(asked.subList(or + 1, asked.size()), known, kinds);
        }
        int and = cutAt(asked, "and");
        if (and >= 0) {
            return ask(asked.subList(0, and), known, kinds) & ask(asked.subList(and + 1, asked.size()), known, kinds);
        }
        if (asked.get(0).sort.equals("not")) {
            return !ask(asked.subList(1, asked.size()), known, kinds);
        }
        int at = cutAt(asked, RELATIONS.toArray(new String[0]));
        long a = reckon(asked.subList(0, at), known, kinds);
        long b = reckon(asked.subList(at + 1, asked.size()), known, kinds);
        switch (asked.get(at).sort) {
            case "<":
                return a < b;
            case "<=":
                return a <= b;
            case ">":
                return a > b;
            case ">=":
                return a >= b;
            case "=":
                return a == b;
            default:
                return a != b;
        }
    }

    static long limit(long n) {
        return n > 1000000 ? 1000000 : n < -1000000 ? -1000000 : n;
    }

    /** The last place of one of these signs at the outermost, where it joins two; -1 without. */
    static int cutAt(List<Token> of, String... signs) {
        int deep = 0;
        int found = -1;
        boolean ended = false;
        for (int i = 0; i < of.size(); i++) {
            String sign = of.get(i).sort;
            if (deep == 0 && ended && Arrays.asList(signs).contains(sign)) {
                found = i;
            }
            if (sign.equals("(") || sign.equals("if")) {
                deep++;
            } else if (sign.equals(")") || sign.equals("end")) {
                deep--;
            }
            ended = sign.equals("NUMBER") || sign.equals(")") || sign.equals("end") || NAMES.contains(sign);
        }
        return found;
    }

    static int enclosed(List<Token> of, String word) {
        int deep = 0;
        for (int i = 0; i < of.size(); i++) {
            String sign = of.get(i).sort;
            if (deep == 0 && sign.equals(word)) {
                return i;
            }
            deep += sign.equals("if") ? 1 : sign.equals("end") ? -1 : 0;
        }
        throw new IllegalStateException();
    }
}
