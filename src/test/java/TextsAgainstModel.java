import java.nio.charset.StandardCharsets;
import java.util.HashMap;
import java.util.List;
import java.util.Map;
import java.util.Random;
import java.util.TreeMap;

/**
 * Each TOKEN at each place of texts that hold all that II lets stand, texts that are drawn and spoilt, and what drawn
 * laws come to; what is due is the model's.
 */
public final class TextsAgainstModel {
    private static final int NONE = FilmLooksBack.NONE;
    private static final int LONGEST = 300;
    private static final int DRAWN = 20000;
    private static final int LAWS = 6000;

    private static final String[] RIGHT = {
        "cues if not ( draw + 1 ) * 2 - kinds scene <= shown and day % 3 # plain / seen or - 1 >= 0 then if 1 < 2 then 3 "
            + "else 4 end else kinds ( 5 ) end ; mend 1 ;",
        "stays cue + next * scene - day % ( seen / plain ) ; stays 1 ;",
        "gladdens who + glad - row * long / day % seen + plain ; cues 0 ; gladdens 0 ;",
        "gladdens if if 1 = 2 then 1 else 2 end > 0 or not not 3 < 4 and 1 = 1 then - kinds who else - - 7 end * 2 ;",
        "scene 1 by 2 to 3 ; kind 1 of 2 ; person 1 row 2 ; seat 1 in 2 ;",
        "call 1 by 2 ; mend 3 ; evening 4 ; cues 1 ; stays 2 ; gladdens 3 ;",
        "cues ( ( ( ( ( ( ( ( 1 ) ) + 1 ) ) ) ) ) - 1 ) ;",
        "cues - kinds - kinds - kinds - 1 + 2 ;",
        "cues if not not not not not not 1 = 1 and 2 = 2 then 1 else 2 end ;",
        "cues if if if if if if if 1 = 1 then 1 else 1 end = 1 then 1 else 1 end = 1 then 1 else 1 end = 1 then 1 "
            + "else 1 end = 1 then 1 else 1 end = 1 then 1 else 1 end = 1 then 1 else 1 end ;"};
    private static final String[] WORDS = {"cues", "stays", "gladdens", "scene", "kind", "person", "seat", "call", "mend",
        "evening", "by", "to", "of", "in", "row", "kinds", "if", "then", "else", "end", "or", "and", "not", "day", "seen",
        "plain", "shown", "draw", "cue", "next", "who", "glad", "long", "Cues", "IF", "kindss", "kin", "a", "z", "A", "Z"};
    private static final String[] NUMBERS = {"0", "1", "2", "3", "4", "7", "8", "9", "10", "11", "12", "13", "40", "41",
        "9999", "10000", "00012", "4294967296", "99999999999999999999"};
    private static final String[] SIGNS = {"<", "<=", ">", ">=", "=", "#", "+", "-", "*", "/", "%", "(", ")", ";", "==",
        "=<", "=>", "<>", "><=", "!", "!=", "&", "'=", "_", ".", ":", "@", "[", "`", "{", "$", ",", "\"", "\\", "\t", "\r",
        "\0", "\u007f", "\u0080", "\u00e9=", "\u00ff", ""};

    private static FilmLooksBack x = new FilmLooksBack();
    private static int calls = 0;
    private static final Map<Integer, Integer> FAULTS = new TreeMap<>();

    public static void main(String[] args) {
        for (String right : RIGHT) {
            eachTokenAtEachPlace("", right.split(" "));
        }
        for (int clauses = 22; clauses <= 25; clauses++) {
            eachTokenAtEachPlace("mend 1;".repeat(clauses - 2) + "stays 1;cues 1;", "evening 1 ;".split(" "));
        }
        Random random = new Random(2026);
        TextWriter writer = new TextWriter(random);
        for (int i = 0; i < DRAWN; i++) {
            String text = i % 5 == 0 ? writer.wrongAtOnePlace() : writer.text(60 + random.nextInt(220));
            read(i % 5 < 3 ? writer.spoilt(text) : text);
        }
        for (int i = 0; i < LAWS; i++) {
            law(random, writer, 1 + i % 8);
        }
        Due.is("unlike FAULTS that were met", FAULTS.size(), 7);
        Due.end();
    }

    private static void eachTokenAtEachPlace(String ahead, String[] tokens) {
        for (int at = 0; at <= tokens.length; at++) {
            String before = ahead + joined(tokens, 0, at);
            String behind = joined(tokens, at + 1, tokens.length);
            String[][] all = {WORDS, NUMBERS, SIGNS};
            for (String[] some : all) {
                for (String token : some) {
                    read(before + token);
                    read(before + token + ' ' + behind);
                    if (at < tokens.length) {
                        read(before + token + ' ' + tokens[at] + ' ' + behind);
                    }
                }
            }
        }
    }

    private static String joined(String[] tokens, int from, int to) {
        StringBuilder b = new StringBuilder();
        for (int i = from; i < to; i++) {
            b.append(tokens[i]).append(' ');
        }
        return b.toString();
    }

    /** Of a text that is longer than the tape, what the tape can have. */
    private static void read(String text) {
        String taken = text.substring(0, Math.min(LONGEST, text.length()));
        if (calls > 480 || x.about(1) > 2) {
            x = new FilmLooksBack();
            calls = 0;
        }
        int fault = 0;
        int place = NONE;
        try {
            TextModel.check(TextModel.tokens(taken.getBytes(StandardCharsets.ISO_8859_1)));
        } catch (TextModel.Wrong wrong) {
            fault = wrong.fault;
            place = wrong.at;
        }
        FAULTS.merge(fault, 1, Integer::sum);
        int texts = x.about(1);
        Due.is("text() of " + taken, Tape.read(x, taken), fault == 0 ? texts : NONE);
        Due.is("fault(0) of " + taken, x.fault(0), fault);
        Due.is("fault(1) of " + taken, x.fault(1), place);
        calls += taken.length() / 20 + 8;
    }

    /** What a drawn SUM comes to, and whether it is just that. */
    private static void law(Random random, TextWriter writer, int deep) {
        String law = random.nextBoolean() ? "cues" : "gladdens";
        writer.out.setLength(0);
        writer.sum(law, deep);
        String sum = writer.out.toString();
        Map<String, Integer> known = new HashMap<>();
        FilmLooksBack house = house(random, known);
        int[] kinds = new int[12];
        for (int s = 0; s < 12; s++) {
            kinds[s] = house.ofScene(s, 5);
        }
        String text = law + ' ' + sum + ';';
        if (text.length() > LONGEST || Tape.read(house, text) == NONE) {
            return;
        }
        house.by(0);
        List<TextModel.Token> tokens = TextModel.tokens(sum.getBytes(StandardCharsets.ISO_8859_1));
        long value = TextModel.reckon(tokens.subList(0, tokens.size() - 1), known, kinds);
        asked(house, text, law, value);
        String due = value < 0 ? "0-" + -value / 1000 + "*1000-" + -value % 1000 : value / 1000 + "*1000+" + value % 1000;
        text = law + " if " + sum + '=' + due + " then 1 else 2 end;";
        if (text.length() <= LONGEST && Tape.read(house, text) != NONE) {
            house.by(1);
            asked(house, text, law, 1);
        }
    }

    private static void asked(FilmLooksBack house, String text, String law, long value) {
        if (law.equals("cues")) {
            Due.is("ofScene(7, 7) by " + text, house.ofScene(7, 7), Math.max(0, Math.min(3, value)));
        } else {
            Due.is("of(1, 3) by " + text, house.of(1, 3), Math.max(0, Math.min(99, value)));
        }
    }

    /** Some EVENINGS have been; what laws know of SCENE 7, by a draw of 0, and of PERSON 1. */
    private static FilmLooksBack house(Random random, Map<String, Integer> known) {
        FilmLooksBack house = new FilmLooksBack();
        for (int p = 0; p < 3; p++) {
            house.person(random.nextInt(10), random.nextInt(10));
        }
        for (int s = 0; s < 12; s++) {
            house.kind(s, random.nextInt(4));
        }
        house.evening(1 + random.nextInt(4));
        known.put("day", house.is(0));
        known.put("seen", Integer.bitCount(house.is(2)));
        known.put("plain", house.front());
        known.put("scene", 7);
        known.put("shown", house.ofScene(7, 6));
        known.put("draw", 0);
        known.put("who", 1);
        known.put("glad", house.of(1, 2));
        known.put("row", house.of(1, 1));
        known.put("long", 1);
        return house;
    }
}
