import java.util.ArrayList;
import java.util.List;
import java.util.Random;
import java.util.TreeSet;

/** Draws texts, right ones and spoilt ones. */
final class TextWriter {
    final Random r;
    final StringBuilder out = new StringBuilder();

    TextWriter(Random r) {
        this.r = r;
    }

    String text(int budget) {
        out.setLength(0);
        List<String> laws = new ArrayList<>(List.of("cues", "stays", "gladdens"));
        int clauses = r.nextInt(6);
        for (int i = 0; i < clauses && out.length() < budget; i++) {
            if (!laws.isEmpty() && r.nextInt(2) == 0) {
                String law = laws.remove(r.nextInt(laws.size()));
                out.append(law).append(' ');
                sum(law, 2 + r.nextInt(3));
                out.append(';');
            } else {
                order();
            }
        }
        return out.toString();
    }

    /** Whole TEXTS with one FAULT that spoiling by chance seldom makes. */
    String wrongAtOnePlace() {
        out.setLength(0);
        switch (r.nextInt(4)) {
            case 0:
                String[] laws = {"cues 1;", "stays 1;", "gladdens 1;"};
                for (int i = 0; i < 3; i++) {
                    out.append(laws[r.nextInt(3)]);
                    order();
                }
                break;
            case 1:
                order();
                int at = out.length();
                order();
                out.replace(at, out.length(), out.substring(at).replaceFirst("[0-9]+", "" + r.nextInt(50)));
                at = Math.max(at, out.length() - 3);
                out.replace(at, out.length(), out.substring(at).replaceFirst("[0-9]+", "" + r.nextInt(50)));
                break;
            case 2:
                int openers = 6 + r.nextInt(4);
                out.append("stays ");
                String after = "";
                for (int i = 0; i < openers; i++) {
                    int pick = r.nextInt(5);
                    out.append(pick == 0 ? "(" : pick == 1 ? "-" : pick == 2 ? " kinds " : pick == 3 ? " if 1<" : " if not ");
                    i += pick == 4 ? 1 : 0;
                    after = (pick == 0 ? ")" : pick == 3 ? " then 1 else 2 end" : pick == 4 ? "=1 then 5 else 0 end" : "") + after;
                }
                out.append("cue").append(r.nextInt(4) == 0 ? "*(1-2)" : "").append(after).append(';');
                break;
            default:
                for (int i = 0; i < 25; i++) {
                    out.append(i == 8 ? "cues 1;" : i == 24 && r.nextBoolean() ? "cues 2;" : "mend 0;");
                }
                out.setLength(out.length() - r.nextInt(3) * 7);
                break;
        }
        return out.toString();
    }

    void order() {
        List<String> heads = new ArrayList<>(new TreeSet<>(TextModel.ORDERS.keySet()));
        String head = heads.get(r.nextInt(heads.size()));
        out.append(head).append(' ');
        for (String part : TextModel.ORDERS.get(head)) {
            if (part.contains("..")) {
                String[] limits = part.split("\\.\\.");
                int low = Integer.parseInt(limits[0]);
                int high = Integer.parseInt(limits[1]);
                out.append(low + r.nextInt(high - low + 1));
            } else {
                out.append(r.nextBoolean() ? " " : "").append(part).append(r.nextBoolean() ? " " : "\n");
            }
        }
        out.append(';');
    }

    void sum(String law, int deep) {
        product(law, deep);
        while (r.nextInt(3) == 0) {
            out.append(r.nextBoolean() ? "+" : " - ");
            product(law, deep);
        }
    }

    void product(String law, int deep) {
        one(law, deep);
        while (r.nextInt(3) == 0) {
            out.append("*/%".charAt(r.nextInt(3)));
            one(law, deep);
        }
    }

    void one(String law, int deep) {
        List<String> names = TextModel.NAMES_OF.get(law);
        int pick = r.nextInt(deep > 0 ? 10 : 6);
        if (r.nextInt(150) == 0) {
            out.append(' ').append(TextModel.NAMES.get(r.nextInt(12))).append(' ');
        } else if (pick < 4) {
            out.append(' ').append(names.get(r.nextInt(names.size()))).append(' ');
        } else if (pick < 6) {
            out.append(r.nextInt(6) == 0 ? r.nextInt(10000) : r.nextInt(8));
        } else if (pick == 6) {
            out.append('(');
            sum(law, deep - 1);
            out.append(')');
        } else if (pick == 7) {
            out.append("-");
            one(law, deep - 1);
        } else if (pick == 8) {
            out.append(" kinds ");
            one(law, deep - 1);
        } else {
            out.append(" if ");
            ask(law, deep - 1);
            while (r.nextInt(3) == 0) {
                out.append(r.nextBoolean() ? " or " : " and ");
                ask(law, deep - 1);
            }
            out.append(" then ");
            sum(law, deep - 1);
            out.append(" else ");
            sum(law, deep - 1);
            out.append(" end ");
        }
    }

    void ask(String law, int deep) {
        if (r.nextInt(5) == 0) {
            out.append(" not ");
            ask(law, deep - 1);
            return;
        }
        sum(law, deep);
        out.append(TextModel.RELATIONS.get(r.nextInt(6)));
        sum(law, deep);
    }

    String spoilt(String text) {
        StringBuilder b = new StringBuilder(text);
        String[] bits = {"(", "not ", "kinds ", "if ", "- ", ")", ";", "draw ", "who ", "cue ", "row ", "10000",
            "9999", "13", "cues ", "end ", "then ", "$", "Scene ", "<", "=", " ", "evening 0;", "mend 3;", "%",
            "((((((((", "kinds kinds kinds kinds kinds kinds kinds kinds ", "gladdens ",
            "mend 1;mend 1;mend 1;mend 1;mend 1;mend 1;mend 1;mend 1;mend 1;mend 1;mend 1;mend 1;",
            "\t", "\u00e9"};
        int times = 1 + r.nextInt(3);
        for (int i = 0; i < times; i++) {
            int at = r.nextInt(b.length() + 1);
            if (r.nextInt(3) == 0 && at < b.length()) {
                b.delete(at, Math.min(b.length(), at + 1 + r.nextInt(6)));
            } else {
                String bit = bits[r.nextInt(bits.length)];
                int repeated = r.nextInt(8) == 0 ? 3 : 1;
                for (int k = 0; k < repeated; k++) {
                    b.insert(at, bit);
                }
            }
        }
        return b.toString();
    }
}
