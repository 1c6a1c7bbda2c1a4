/**
 * For each sentence of II, and of the promises beside it, that names a boundary case, a test of its own: TOKENS,
 * CLAUSES, FAULTS, SUMS, laws, and TEXTS that are PLAYED. What is refused is in Refused.
 */
public final class TextBoundaries {
    private static final int NONE = FilmLooksBack.NONE;

    public static void main(String[] args) {
        tape();
        texts();
        latestFault();
        ruling();
        tokens();
        numbers();
        clauses();
        wrongClauses();
        wrongSums();
        wrongNumbers();
        openedAround();
        secondTime();
        names();
        theLeastAndTheFirst();
        limits();
        cuts();
        order();
        manyParts();
        asks();
        asksOfThree();
        kinds();
        lawLimits();
        knownNames();
        played();
        playedTill();
        Due.end();
    }

    private static void fine(String sentence, String text) {
        FilmLooksBack x = Due.test(7, sentence + ": " + text);
        Due.is("text()", Tape.read(x, text), 0);
        Due.is("fault(0)", x.fault(0), 0);
        Due.is("fault(1)", x.fault(1), NONE);
        Due.is("about(1)", x.about(1), 1);
    }

    private static void faulty(String sentence, String text, int fault, int place) {
        FilmLooksBack x = Due.test(8, sentence + ": " + text);
        Due.is("text()", Tape.read(x, text), NONE);
        Due.is("fault(0)", x.fault(0), fault);
        Due.is("fault(1)", x.fault(1), place);
        Due.is("about(1)", x.about(1), 0);
    }

    /** One PERSON of PLAIN 4 in row 3; SCENE 0 is of KIND 1, 11 of KIND 3. */
    private static void sum(String sentence, String sum, int due) {
        FilmLooksBack x = Due.test(17, sentence + ": " + sum);
        x.person(4, 3);
        x.kind(0, 1);
        x.kind(11, 3);
        Tape.rule(x, "gladdens " + sum + ";");
        Due.is("THE TEXT", x.about(2), 0);
        Due.is("of(0, 3)", x.of(0, 3), due);
    }

    /** Whether these two are the same at each step. */
    private static void same(String sentence, String a, String b) {
        sum(sentence, "if " + a + "=" + b + " then 1 else 2 end", 1);
    }

    private static void tape() {
        FilmLooksBack x = Due.test(5, "Twenty bytes come behind the tape: up to 300");
        for (int i = 1; i <= 15; i++) {
            Due.is("feed", x.feed(0x20202020, 0x20202020, 0x20202020, 0x20202020, 0x20202020), 20 * i);
        }
        Due.is("feed: 320", x.feed(0, 0, 0, 0, 0), NONE);
        Due.is("about(6)", x.about(6), 300);
        Due.is("none came", x.text(), 0);
        x = Due.test(5, "280 and 20 are 300 just");
        x.feed(0x20202020, 0x20202020, 0x20202020, 0x20202020, 0x20202020);
        Tape.put(x, " ".repeat(280));
        Due.is("feed", x.feed(0, 0, 0, 0, 0), 300);
        Due.is("text()", x.text(), NONE);
        Due.is("place", x.fault(1), 280);
        for (int length = 279; length <= 282; length++) {
            x = Due.test(5, "behind a tape of " + length);
            Tape.put(x, " ".repeat(length));
            Due.is("feed", x.feed(0, 0, 0, 0, 0), length <= 280 ? length + 20 : NONE);
            Due.is("about(6)", x.about(6), length <= 280 ? length + 20 : length);
        }
        x = Due.test(5, "the highest of a first, each of the five");
        Due.is("feed", x.feed(0x6d656e64, 0x20313b6d, 0x656e6420, 0x323b6d65, 0x6e642033), 20);
        Due.is("feed", x.feed(0x3b780000, 0, 0, 0, 0), 40);
        x.end(21);
        Due.is("mend 1;mend 2;mend 3;", x.text(), 0);
        x = Due.test(5, "bytes from 128 on: a negative number's highest");
        x.feed(0x20e92020, 0, 0, 0, 0);
        x.end(4);
        Due.is("text()", x.text(), NONE);
        Due.is("place", x.fault(1), 1);
        x.feed(-1, -1, -1, -1, -1);
        Due.is("text()", x.text(), NONE);
        Due.is("place", x.fault(1), 0);
        x = Due.test(6, "its first n bytes alone: 0, all, one less");
        Tape.put(x, "mend 0;");
        Due.is("end(7)", x.end(7), 7);
        Due.is("end(6)", x.end(6), 6);
        Due.is("end(7), not so many", x.end(7), NONE);
        Due.is("about(6)", x.about(6), 6);
        Due.is("end(0)", x.end(0), 0);
        Due.is("end(0)", x.end(0), 0);
        Due.is("end(1)", x.end(1), NONE);
        x = Due.test(6, "its first n bytes alone: a word that is cut off ends there");
        Tape.put(x, "mend 0;mends");
        x.end(11);
        Due.is("text()", x.text(), NONE);
        Due.is("place, the length", x.fault(1), 11);
        Tape.put(x, "mend 0;mend");
        x.end(10);
        Due.is("text()", x.text(), NONE);
        Due.is("place of men", x.fault(1), 7);
        x = Due.test(6, "its first n bytes alone: a NUMBER that is cut off ends there");
        Tape.put(x, "mend 12");
        x.end(6);
        Due.is("text()", x.text(), NONE);
        Due.is("FAULT", x.fault(0), 1);
        Due.is("place, the length", x.fault(1), 6);
        x = Due.test(6, "its first n bytes alone: a sign that is cut off ends there");
        Tape.put(x, "cues if 1<=");
        x.end(10);
        Due.is("text()", x.text(), NONE);
        Due.is("place, the length", x.fault(1), 10);
        x = Due.test(6, "what was cut off doesn't come again");
        Tape.put(x, "mend 0;mend 12;");
        x.end(7);
        x.feed(0x20202020, 0x20202020, 0x20202020, 0x20202020, 0x20202020);
        Due.is("about(6)", x.about(6), 27);
        Due.is("text()", x.text(), 0);
    }

    private static void texts() {
        FilmLooksBack x = Due.test(7, "The tape (empty then) is a TEXT: its number, 0 .. 3");
        for (int t = 0; t < 4; t++) {
            Due.is("text()", Tape.read(x, "mend " + t + ";"), t);
            Due.is("the tape", x.about(6), 0);
            Due.is("TEXTS", x.about(1), t + 1);
        }
        x = Due.test(7, "the tape stays, if there are 4: it is read when one is no TEXT any more");
        x.image();
        for (int t = 0; t < 4; t++) {
            Tape.read(x, "");
        }
        Tape.put(x, "mend 9;");
        Due.is("text()", x.text(), NONE);
        Due.is("about(6)", x.about(6), 7);
        x.back();
        Due.is("text()", x.text(), 0);
        x = Due.test(7, "it has a FAULT: the tape is empty then, the TEXTS are as they were");
        Tape.read(x, "");
        Due.is("text()", Tape.read(x, "mend"), NONE);
        Due.is("about(6)", x.about(6), 0);
        Due.is("about(1)", x.about(1), 1);
        Due.is("the next number", Tape.read(x, "mend 0;"), 1);
        x = Due.test(7, "a TEXT of no bytes: {CLAUSE} of none");
        Due.is("text()", x.text(), 0);
        Due.is("played(0)", x.played(0), NONE);
        String whole = "gladdens " + "1+".repeat(144) + "12;";
        x = Due.test(7, "a TEXT of 300 bytes");
        Due.is("its length", whole.length(), 300);
        Due.is("text()", Tape.read(x, whole), 0);
        x.person(0, 1);
        Tape.rule(x, "gladdens " + "1-".repeat(144) + "12;");
        Due.is("of(0, 3): 0 at least", x.of(0, 3), 0);
        x.by(0);
        Due.is("of(0, 3): 99 at most", x.of(0, 3), 99);
        Tape.rule(x, "gladdens 500" + "-4+1".repeat(70) + "-194 ;\n\n");
        Due.is("of(0, 3), of 300 bytes", x.of(0, 3), 96);
        faulty("300 bytes without an end: at the length", "gladdens " + "1+".repeat(145) + "1", 1, 300);
        String[][] lasts = {{"mend", "300"}, {"mend 0", "300"}, {"cues (", "300"}, {"scene", "300"}, {"a", "299"},
            {"cues 1<", "299"}, {"cues 1>", "299"}, {"cues 1<=", "298"}, {"mend 12", "298"}, {"mend 10000", "295"}};
        for (String[] last : lasts) {
            faulty("a TEXT of 300 bytes: the tape ends behind the last TOKEN", " ".repeat(300 - last[0].length()) + last[0],
                    last[0].startsWith("mend 1") ? 2 : 1, Integer.parseInt(last[1]));
        }
        fine("a TEXT of 300 bytes: blanks to its end", "mend 0;" + "\n".repeat(293));
        x = Due.test(7, "what a TEXT has of the one read ahead: nothing");
        Tape.read(x, "cues 3;stays 2;gladdens 7;mend 0;");
        Tape.rule(x, "scene 4 by 1 to 9;");
        x.person(5, 1);
        Due.is("of(0, 3)", x.of(0, 3), 5);
        Due.is("ofScene(0, 7)", x.ofScene(0, 7), 0);
        Due.is("played(1)", x.played(1), NONE);
        Due.is("ofScene(4, 1)", x.ofScene(4, 1), 9);
        x.by(0);
        Due.is("of(0, 3)", x.of(0, 3), 7);
    }

    private static void latestFault() {
        FilmLooksBack x = Due.test(8, "NONE ahead of any");
        Due.is("fault(0)", x.fault(0), NONE);
        Due.is("fault(1)", x.fault(1), NONE);
        x = Due.test(8, "a tape that wasn't read has none");
        Tape.put(x, "oh");
        Due.is("fault(0)", x.fault(0), NONE);
        x = Due.test(8, "0 its FAULT (0 without), 1 its place (NONE without)");
        Tape.read(x, "mend 0;");
        Due.is("fault(0)", x.fault(0), 0);
        Due.is("fault(1)", x.fault(1), NONE);
        x = Due.test(8, "Of the latest text that was read: with one, without, with another");
        Tape.read(x, "mend 12;");
        Due.is("fault(0)", x.fault(0), 2);
        Due.is("fault(1)", x.fault(1), 5);
        Tape.read(x, "mend 11;");
        Due.is("fault(0)", x.fault(0), 0);
        Due.is("fault(1)", x.fault(1), NONE);
        Tape.read(x, "oh");
        Due.is("fault(0)", x.fault(0), 1);
        Due.is("fault(1)", x.fault(1), 0);
        x = Due.test(8, "Of the latest text that was read: where there are 4, none is");
        for (int t = 0; t < 4; t++) {
            Tape.read(x, "");
        }
        Tape.read(x, "oh");
        Due.is("fault(0)", x.fault(0), 0);
        Due.is("fault(1)", x.fault(1), NONE);
    }

    private static void ruling() {
        FilmLooksBack x = Due.test(9, "THE TEXT (NONE: none)");
        Tape.read(x, "cues 3;");
        Due.is("by(0)", x.by(0), true);
        Due.is("ofScene(0, 7)", x.ofScene(0, 7), 3);
        Due.is("by(NONE)", x.by(NONE), true);
        Due.is("about(2)", x.about(2), NONE);
        Due.is("ofScene(0, 7)", x.ofScene(0, 7), 0);
        Due.is("by(NONE), of none", x.by(NONE), true);
        x = Due.test(9, "False for others: it rules as ahead of that");
        Tape.rule(x, "cues 3;");
        Due.is("by(1)", x.by(1), false);
        Due.is("by(-2)", x.by(-2), false);
        Due.is("about(2)", x.about(2), 0);
        x = Due.test(9, "a TEXT that is read doesn't rule by that");
        Tape.read(x, "cues 3;");
        Due.is("about(2)", x.about(2), NONE);
        x = Due.test(9, "NONE: none rules, though there are 4");
        for (int t = 0; t < 4; t++) {
            Tape.read(x, "cues 3;gladdens 9;stays 0;");
        }
        x.person(5, 9);
        Due.is("ofScene(0, 7)", x.ofScene(0, 7), 0);
        Due.is("of(0, 3)", x.of(0, 3), 5);
        x.by(3);
        Due.is("ofScene(0, 7)", x.ofScene(0, 7), 3);
        x.by(NONE);
        Due.is("ofScene(0, 7)", x.ofScene(0, 7), 0);
        Due.is("of(0, 3)", x.of(0, 3), 5);
        x = Due.test(9, "TEXT 3, the greatest");
        for (int t = 0; t < 4; t++) {
            Tape.read(x, "cues " + t + ";");
        }
        Due.is("by(3)", x.by(3), true);
        Due.is("ofScene(0, 7)", x.ofScene(0, 7), 3);
    }

    private static void tokens() {
        fine("blanks (32, 10) aside, between all TOKENS, ahead and behind", " \n mend \n 0\n; \n");
        fine("no blanks at all", "cues1+2;stays3;mend0;");
        fine("blanks alone", " \n\n ");
        for (int blank : new int[] {0, 9, 11, 12, 13, 31, 33, 127, 160, 255}) {
            faulty("blanks are 32 and 10 alone: not " + blank, "mend" + (char) blank + "0;", 1, 4);
        }
        for (char beside : new char[] {'@', '[', '`', '{', '_', '\'', '"', '&', '!', '.', ',', ':', '$', '|', '~'}) {
            faulty("1 or is none, behind a word", "mend" + beside + "0;", 1, 4);
            faulty("1 or is none, behind a NUMBER", "mend 0" + beside + ";", 1, 6);
            faulty("1 or is none, behind all", "mend 0;" + beside, 1, 7);
        }
        for (char letter : new char[] {'a', 'z', 'A', 'Z', 'm', 'M'}) {
            faulty("letters a .. z, A .. Z one behind the other (one TOKEN)", "mend" + letter + " 0;", 1, 0);
            faulty("letters a .. z, A .. Z one behind the other (one TOKEN)", "mend 0;" + letter + "mend 1;", 1, 7);
        }
        faulty("a word is as told: not in capitals", "MEND 0;", 1, 0);
        faulty("a word is as told: not with one", "Mend 0;", 1, 0);
        faulty("a word is whole: not cut short", "men 0;", 1, 0);
        faulty("a word is whole: two are none", "cuesdraw;", 1, 0);
        faulty("a word isn't parted", "me nd 0;", 1, 0);
        fine("a word ends where digits begin", "person1row2;seat3in4;scene5by1to6;call7by2;kind3of8;evening9;mend10;");
        fine("digits end where a word begins", "cues if 1<2then 3else 4end;");
        faulty("a digit doesn't begin a word", "0mend 0;", 1, 0);
        faulty("digits are parted by a blank", "mend 1 1;", 1, 7);
        fine("the longest: <= and >=", "cues if 1<=2 and 2>=1 then 1 else 2 end;");
        faulty("< and = parted by a blank are two", "cues if 1< =2 then 1 else 2 end;", 1, 11);
        faulty("> and = parted by a line are two", "cues if 1>\n=2 then 1 else 2 end;", 1, 11);
        faulty("= and < are two", "cues if 1=<2 then 1 else 2 end;", 1, 10);
        faulty("= and > are two", "cues if 1=>2 then 1 else 2 end;", 1, 10);
        faulty("< and > are two", "cues if 1<>2 then 1 else 2 end;", 1, 10);
        faulty("= and = are two", "cues if 1==2 then 1 else 2 end;", 1, 10);
        faulty("<= and = are two", "cues if 1<==2 then 1 else 2 end;", 1, 11);
        faulty("# and = are two", "cues if 1#=2 then 1 else 2 end;", 1, 10);
        faulty("< and < are two", "cues if 1<<2 then 1 else 2 end;", 1, 10);
        for (char sign : "<>=#+*/%();".toCharArray()) {
            faulty("1 it can't stand there: ahead of all", sign + "mend 0;", 1, 0);
        }
        faulty("1 it can't stand there: <= ahead of all", "<=", 1, 0);
        faulty("bytes from 128 on are none", "mend 0;\u0080", 1, 7);
        faulty("bytes from 128 on are none: 255", "mend \u00ff0;", 1, 5);
        faulty("bytes from 128 on are none: a letter and 128", "mend\u00e5 0;", 1, 4);
    }

    private static void numbers() {
        fine("NUMBERS (0 .. 9999): 9999", "cues 9999;");
        fine("NUMBERS: as many noughts ahead as there is room for", "cues " + "0".repeat(280) + "9999;");
        faulty("2 above 9999: 10000", "cues 10000;", 2, 5);
        faulty("2 above 9999: with noughts ahead", "cues 0010000;", 2, 5);
        faulty("2 above 9999: what an int wraps to 0", "cues 4294967296;", 2, 5);
        faulty("2 above 9999: what a long wraps to 1", "cues 18446744073709551617;", 2, 5);
        faulty("2 above 9999: 290 digits", "cues " + "9".repeat(290) + ";", 2, 5);
        faulty("2 above 9999: the second of a SUM", "cues 1+ 10000;", 2, 8);
        faulty("2 above 9999: in a CLAUSE", "mend 4294967296;", 2, 5);
        sum("NUMBERS with noughts ahead", "0000000000000000000000000012", 12);
        sum("NUMBER 0", "0", 0);
        sum("NUMBER 9999", "9999-9990", 9);
    }

    private static void clauses() {
        fine("CLAUSES of the least NUMBERS",
                "scene 0 by 0 to 0;kind 0 of 0;person 0 row 0;seat 0 in 0;call 0 by 1;mend 0;evening 1;");
        fine("CLAUSES of the greatest NUMBERS",
                "scene 11 by 3 to 12;kind 3 of 11;person 9 row 9;seat 7 in 9;call 11 by 3;mend 11;evening 40;");
        fine("CLAUSES but laws as often as one likes", "mend 0;mend 0;evening 1;evening 1;kind 0 of 0;kind 0 of 0;");
        fine("cues, stays, gladdens, each once, in any order", "gladdens 1;mend 0;stays 1;evening 1;cues 1;");
        fine("{CLAUSE}, 24 at most: 24", "mend 0;".repeat(24));
        fine("{CLAUSE}, 24 at most: 24 with laws", "cues 1;stays 1;gladdens 1;" + "mend 0;".repeat(21));
        faulty("6 the 25th CLAUSE (at its first TOKEN)", "mend 0;".repeat(25), 6, 168);
        faulty("6 the 25th CLAUSE, behind blanks", "mend 0;".repeat(24) + " \n mend 0;", 6, 171);
        faulty("6 the 25th CLAUSE: a law", "mend 0;".repeat(24) + "cues 1;", 6, 168);
        faulty("6 the 25th CLAUSE: laws are CLAUSES", "cues 1;stays 1;gladdens 1;" + "mend 0;".repeat(22), 6, 173);
        faulty("6 the 25th CLAUSE, though it isn't whole", "mend 0;".repeat(24) + "evening", 6, 168);
        faulty("6 the 25th CLAUSE, though it has a FAULT behind", "mend 0;".repeat(24) + "mend 99", 6, 168);
    }

    private static void wrongClauses() {
        String can = "1 it can't stand there";
        String end = "of the end at the length";
        String[] wholes = {"scene 0 by 0 to 0;", "kind 0 of 0;", "person 0 row 0;", "seat 0 in 0;", "call 0 by 1;",
            "mend 0;", "evening 1;", "cues 1;", "stays 1;", "gladdens 1;"};
        for (String whole : wholes) {
            String[] parts = whole.substring(0, whole.length() - 1).split(" ");
            String ahead = "";
            for (int i = 0; i < parts.length; i++) {
                ahead += parts[i];
                faulty(end, ahead, 1, ahead.length());
                faulty(end + ", blanks behind", ahead + " \n", 1, ahead.length() + 2);
                faulty(can, ahead + ")", 1, ahead.length());
                faulty(can, ahead + " oh", 1, ahead.length() + 1);
                if (i + 1 < parts.length) {
                    faulty(can, ahead + ";", 1, ahead.length());
                } else {
                    faulty(can, ahead + " 5", 1, ahead.length() + 1);
                    faulty(can, ahead + " mend", 1, ahead.length() + 1);
                }
                ahead += " ";
            }
            faulty("a second ;", whole + ";", 1, whole.length());
        }
        faulty(can, "scene 0 to 0 by 0;", 1, 8);
        faulty(can, "scene 0 by 0 by 0;", 1, 13);
        faulty(can, "scene 0 by 0 in 0;", 1, 13);
        faulty(can, "kind 0 in 0;", 1, 7);
        faulty(can, "person 0 in 0;", 1, 9);
        faulty(can, "seat 0 row 0;", 1, 7);
        faulty(can, "call 0 to 1;", 1, 7);
        faulty(can, "mend -1;", 1, 5);
        faulty(can, "mend (1);", 1, 5);
        faulty(can, "mend 1+1;", 1, 6);
        faulty(can, "mend day;", 1, 5);
        faulty(can, "evening scene;", 1, 8);
        for (String head : "by to of in kinds if then else end not and or day seen plain row shown draw".split(" ")) {
            faulty("1 it can't stand there: it begins no CLAUSE", head + " 0;", 1, 0);
        }
        for (String head : "cue next who glad long oh 7 ( - ;".split(" ")) {
            faulty("1 it can't stand there: it begins no CLAUSE", "mend 0;" + head, 1, 7);
        }
    }

    private static void wrongSums() {
        String can = "1 it can't stand there";
        for (String law : new String[] {"cues ", "stays ", "gladdens "}) {
            int at = law.length();
            faulty(can + ": no SUM", law + ";", 1, at);
            faulty(can + ": nothing ahead of +", law + "+1;", 1, at);
            faulty(can + ": nothing behind +", law + "1+;", 1, at + 2);
            faulty(can + ": nothing behind -", law + "1-;", 1, at + 2);
            faulty(can + ": nothing behind *", law + "1*;", 1, at + 2);
            faulty(can + ": nothing behind /", law + "1/;", 1, at + 2);
            faulty(can + ": nothing behind %", law + "1%;", 1, at + 2);
            faulty(can + ": * behind +", law + "1+*2;", 1, at + 2);
            faulty(can + ": nothing behind a - of one", law + "-;", 1, at + 1);
            faulty(can + ": nothing within", law + "();", 1, at + 1);
            faulty(can + ": ) too many", law + "(1));", 1, at + 3);
            faulty(can + ": ) too few", law + "((1);", 1, at + 4);
            faulty(can + ": two NUMBERS", law + "1 2;", 1, at + 2);
            faulty(can + ": two NAMES", law + "day day;", 1, at + 4);
            faulty(can + ": a NUMBER and (", law + "2(3);", 1, at + 1);
            faulty(can + ": < of no ASK", law + "1<2;", 1, at + 1);
            faulty(can + ": = of no ASK", law + "1=2;", 1, at + 1);
            faulty(can + ": or of no ASK", law + "1 or 2;", 1, at + 2);
            faulty(can + ": not of no ASK", law + "not 1<2;", 1, at);
            faulty(can + ": then without if", law + "1 then 2;", 1, at + 2);
            faulty(can + ": nothing behind kinds", law + "kinds;", 1, at + 5);
            faulty(can + ": kinds of *", law + "kinds *2;", 1, at + 6);
            faulty(can + ": kind isn't kinds", law + "kind 1;", 1, at);
            faulty(can + ": the word of another CLAUSE", law + "1+mend;", 1, at + 2);
        }
        for (String no : "; ( ) + * / % then else end or and not kinds if 5 day".split(" ")) {
            String ahead = "cues if 1 ";
            boolean goesOn = "+*/%".contains(no);
            faulty(can + ": no sign between two SUMS", ahead + no + " <2 then 1 else 2 end;", 1,
                    ahead.length() + (goesOn ? 2 : 0));
        }
        for (String no : "< <= > >= = # ( ) :".split(" ")) {
            faulty(can + ": not ; behind a CLAUSE", "mend 0" + no, 1, 6);
            faulty(can + ": not ; behind a SUM", "cues 1" + (no.equals(")") ? "" : no) + ")", 1, 6);
        }
        faulty(can + ": if without a sign", "cues if 1 then 2 else 3 end;", 1, 10);
        faulty(can + ": if without SUM", "cues if <1 then 2 else 3 end;", 1, 8);
        faulty(can + ": two signs", "cues if 1<2<3 then 2 else 3 end;", 1, 11);
        faulty(can + ": an ASK in ( )", "cues if (1<2) then 2 else 3 end;", 1, 10);
        faulty(can + ": not of an ASK in ( )", "cues if not (1<2) then 2 else 3 end;", 1, 14);
        faulty(can + ": no then", "cues if 1<2 2 else 3 end;", 1, 12);
        faulty(can + ": no else", "cues if 1<2 then 2 end;", 1, 19);
        faulty(can + ": no end", "cues if 1<2 then 2 else 3;", 1, 25);
        faulty(can + ": two else", "cues if 1<2 then 2 else 3 else 4 end;", 1, 26);
        faulty(can + ": nothing behind then", "cues if 1<2 then else 3 end;", 1, 17);
        faulty(can + ": nothing behind else", "cues if 1<2 then 2 else end;", 1, 24);
        faulty(can + ": nothing behind or", "cues if 1<2 or then 2 else 3 end;", 1, 15);
        faulty(can + ": nothing behind and", "cues if 1<2 and then 2 else 3 end;", 1, 16);
        faulty(can + ": nothing behind not", "cues if not then 2 else 3 end;", 1, 12);
        faulty(can + ": not behind <", "cues if 1<not 2<3 then 2 else 3 end;", 1, 10);
        faulty(can + ": or between SUMS", "cues if 1 or 2<3 then 2 else 3 end;", 1, 10);
        faulty("of the end at the length: within all", "cues (if not 1<2 and 3>4 or kinds -5", 1, 36);
        fine("any ONE is as good as another", "cues -(1)*kinds 2+if 1<2 then day else-seen end%if 1#2 then 1 else 2 end;");
    }

    private static void wrongNumbers() {
        String[][] limits = {{"scene ", "11", "12", " by 0 to 0;"}, {"scene 0 by ", "3", "4", " to 0;"},
            {"scene 0 by 0 to ", "12", "13", ";"}, {"kind ", "3", "4", " of 0;"}, {"kind 0 of ", "11", "12", ";"},
            {"person ", "9", "10", " row 0;"}, {"person 0 row ", "9", "10", ";"}, {"seat ", "7", "8", " in 0;"},
            {"seat 0 in ", "9", "10", ";"}, {"call ", "11", "12", " by 1;"}, {"call 0 by ", "3", "4", ";"},
            {"mend ", "11", "12", ";"}, {"evening ", "40", "41", ";"}};
        for (String[] l : limits) {
            fine("2 a NUMBER of those told, the greatest", l[0] + l[1] + l[3]);
            faulty("2 a NUMBER that isn't one of those told", l[0] + l[2] + l[3], 2, l[0].length());
            faulty("2 a NUMBER above 9999", l[0] + "10000" + l[3], 2, l[0].length());
            faulty("2 a NUMBER that isn't one, whatever comes behind", l[0] + l[2] + "oh", 2, l[0].length());
        }
        faulty("2 (of call 1 .. 3): 0", "call 0 by 0;", 2, 10);
        faulty("2 EVENINGS 1 .. 40: 0", "evening 0;", 2, 8);
        fine("(of call 1 .. 3): 1", "call 0 by 1;");
        fine("EVENINGS 1 .. 40: 1", "evening 1;");
        fine("a NUMBER with noughts ahead", "evening 00040;");
    }

    private static void openedAround() {
        String ninth = "3 the 9th of ( not kinds if and - (of one ONE) that are open around one another (at it)";
        String eighth = "the 8th of ( not kinds if and - is none";
        fine(eighth + ": (", "cues " + "(".repeat(8) + "1" + ")".repeat(8) + ";");
        faulty(ninth + ": (", "cues " + "(".repeat(9) + "1" + ")".repeat(9) + ";", 3, 13);
        fine(eighth + ": -", "cues " + "-".repeat(8) + "1;");
        faulty(ninth + ": -", "cues " + "-".repeat(9) + "1;", 3, 13);
        fine(eighth + ": kinds", "cues " + "kinds ".repeat(8) + "1;");
        faulty(ninth + ": kinds", "cues " + "kinds ".repeat(9) + "1;", 3, 53);
        String sevenIfs = "if 1<".repeat(7);
        String sevenEnds = " then 1 else 2 end".repeat(7);
        fine(eighth + ": if", "cues " + sevenIfs + "if 1<2 then 3 else 4 end" + sevenEnds + ";");
        faulty(ninth + ": if", "cues " + sevenIfs + "if 1<if 1<2 then", 3, 45);
        fine(eighth + ": not", "cues if " + "not ".repeat(7) + "1<2 then 1 else 2 end;");
        faulty(ninth + ": not", "cues if " + "not ".repeat(8) + "1<2 then 1 else 2 end;", 3, 36);
        faulty(ninth + ": of all kinds, the last (", "cues ((--kinds kinds if not(", 3, 27);
        fine("open no more: behind )", "cues ((((1))))+((((((((2))))))));");
        fine("open no more: behind ONE of -", "cues --------1+--------2*--------3;");
        fine("open no more: behind ONE of kinds", "cues " + "kinds ".repeat(8) + "1-" + "kinds ".repeat(8) + "1;");
        fine("open no more: behind end", "cues if 1<2 then 1 else 2 end+" + "(".repeat(8) + "1" + ")".repeat(8) + ";");
        fine("open no more: behind ASK of not", "cues if not 1<2 and 1<(((((((2))))))) then 1 else 2 end;");
        fine("open no more: behind ASK of not, at or", "cues if not 1<2 or (((((((1)))))))<2 then 1 else 2 end;");
        fine("open no more: in the next CLAUSE", "cues ((((((((1))))))));stays ((((((((1))))))));");
        fine("- between two is not of one ONE", "cues " + "1-".repeat(20) + "((((((((1))))))));");
        faulty("- of one ONE within (", "cues (((((((-(1))))))));", 3, 13);
        faulty("if is open till its end: in EITHER", "cues if 1<((((((((2", 3, 17);
        faulty("if is open till its end: in then", "cues if 1<2 then ((((((((2", 3, 24);
        faulty("if is open till its end: in else", "cues if 1<2 then 1 else ((((((((2", 3, 31);
        fine("if is open till its end: 7 more in else", "cues if 1<2 then (((((((1))))))) else (((((((2))))))) end;");
        faulty("not is open in its ASK on both sides", "cues if not 1<(((((((2", 3, 20);
        faulty("- and ( : the ( is open in the - too", "cues -(((((((( 1", 3, 13);
        fine("- and ( : 8", "cues -(((((((1)))))));");
        faulty("the 9th at it, whatever comes behind", "cues (((((((((", 3, 13);
    }

    private static void secondTime() {
        faulty("4 cues for the second time (at it)", "cues 1;cues 2;", 4, 7);
        faulty("4 stays for the second time (at it)", "stays 1; stays 2;", 4, 9);
        faulty("4 gladdens for the second time (at it)", "gladdens 1;\ngladdens 2;", 4, 12);
        faulty("4 for the second time, others between", "cues 1;stays 2;gladdens 3;mend 0;stays 1;", 4, 33);
        faulty("4 for the second time, though it isn't whole", "cues 1;cues", 4, 7);
        FilmLooksBack x = Due.test(8, "4 for the second time: in one TEXT; each TEXT has its own");
        Due.is("text()", Tape.read(x, "cues 1;"), 0);
        Due.is("text()", Tape.read(x, "cues 2;"), 1);
        x = Due.test(8, "4 for the second time: what had a FAULT doesn't count");
        Due.is("text()", Tape.read(x, "cues 1;stays oh;"), NONE);
        Due.is("text()", Tape.read(x, "stays 1;cues 2;"), 0);
    }

    private static void names() {
        String[] laws = {"cues", "stays", "gladdens"};
        String[] names = {"day", "seen", "plain", "scene", "shown", "draw", "cue", "next", "who", "glad", "row", "long"};
        String[] in = {"111", "111", "111", "110", "100", "100", "010", "010", "001", "001", "001", "001"};
        for (int n = 0; n < names.length; n++) {
            for (int law = 0; law < 3; law++) {
                if (in[n].charAt(law) == '1') {
                    fine("NAMES", laws[law] + " " + names[n] + ";");
                } else {
                    faulty("5 a NAME that isn't of that CLAUSE (at it)", laws[law] + " " + names[n] + ";", 5,
                            laws[law].length() + 1);
                    faulty("5 a NAME that isn't of that CLAUSE, within", laws[law] + " 1+(if 1<" + names[n], 5,
                            laws[law].length() + 9);
                }
            }
        }
        faulty("5 of that CLAUSE: of the one it stands in", "cues draw;stays draw;", 5, 16);
        faulty("1 a word that is no NAME", "cues by;", 1, 5);
        faulty("1 a word that is no NAME: cues", "cues cues;", 1, 5);
    }

    private static void theLeastAndTheFirst() {
        faulty("of one the least: it can't stand there, above 9999", "mend 0 10000;", 1, 7);
        faulty("of one the least: it can't stand there, no NAME of that CLAUSE", "cues 1 who;", 1, 7);
        faulty("of one the least: it can't stand there, the 9th (", "cues ((((((((1(", 1, 14);
        faulty("of one the least: it can't stand there, the 9th not", "cues ((((((((not", 1, 13);
        faulty("of one the least: it can't stand there, cues for the second time", "cues 1 cues", 1, 7);
        faulty("of one the least: none, the 25th CLAUSE", "mend 0;".repeat(24) + "oh", 1, 168);
        faulty("of one the least: a NUMBER, the 25th CLAUSE", "mend 0;".repeat(24) + "10000", 1, 168);
        faulty("of one the least: cues for the second time, the 25th CLAUSE", "cues 1;" + "mend 0;".repeat(23) + "cues 1;",
                4, 168);
        faulty("the first as TOKENS are come to: 2 ahead of 1", "mend 12 12 oh", 2, 5);
        faulty("the first as TOKENS are come to: 1 ahead of 2", "mend oh 12;", 1, 5);
        faulty("the first as TOKENS are come to: 5 ahead of 3", "cues who+(((((((((", 5, 5);
        faulty("the first as TOKENS are come to: 3 ahead of 5", "cues (((((((((who", 3, 13);
        faulty("the first as TOKENS are come to: 4 ahead of 1", "cues 1;cues oh;", 4, 7);
        faulty("the first as TOKENS are come to: 2 in the first CLAUSE of two", "evening 0;mend 12;", 2, 8);
        faulty("the first as TOKENS are come to: in the second", "evening 1;mend 12;", 2, 15);
    }

    private static void limits() {
        same("what is above 1000000 is that: + just 1000000", "9999*100+100", "1000*1000");
        same("what is above 1000000 is that: + 1000001", "9999*100+101", "1000*1000");
        same("+ 999999 is below", "9999*100+99+1", "1000*1000");
        sum("+ 999999 is not 1000000", "if 9999*100+99=1000*1000 then 1 else 2 end", 2);
        same("what is above 1000000 is that: - of a - of one", "1000*1000-(-1)", "1000*1000");
        same("what is above 1000000 is that: *", "1000*1001", "1000*1000");
        same("what is above 1000000 is that: * of two below", "(-1000)*(-1001)", "1000*1000");
        same("what is above 1000000 is that: * of the greatest", "9999*9999", "1000*1000");
        same("* of 1000000 and 1000000, more than an int holds", "(1000*1000)*(1000*1000)", "1000*1000");
        same("* of 1000000 and -1000000", "(1000*1000)*(-1000*1000)", "-1000*1000");
        same("+ of 1000000 and 1000000", "1000*1000+1000*1000", "1000*1000");
        same("(below the same less): just", "0-9999*100-100", "-1000*1000");
        same("(below the same less): - 1000001", "0-9999*100-101", "-1000*1000");
        same("(below the same less): - of the least and the greatest", "-1000*1000-1000*1000", "-1000*1000");
        same("(below the same less): + of two", "-1000*1000+(-1)", "-1000*1000");
        same("(below the same less): *", "-1000*1001", "-1000*1000");
        same("- -999999 is above", "0-9999*100-99-1", "-1000*1000");
        sum("- -999999 is not -1000000", "if 0-9999*100-99=-1000*1000 then 1 else 2 end", 2);
        same("at each step: 1000000 and more less more", "9999*9999-9999*9999+1", "1");
        same("at each step: what is less than it was", "1000*1000+5-5", "1000*1000-5");
        same("at each step: * and /", "9999*9999/1000", "1000");
        same("at each step: below, and more", "-9999*9999+5", "-1000*1000+5");
        same("- of 1000000 is the same less", "-(1000*1000)", "0-1000*1000");
        same("- of -1000000", "-(-1000*1000)", "1000*1000");
    }

    private static void cuts() {
        int[][] pairs = {{7, 2}, {-7, 2}, {7, -2}, {-7, -2}, {6, 3}, {-6, 3}, {1, 2}, {-1, 2}, {0, 5}, {0, -5}, {5, 1},
            {5, -1}, {9, 10}, {-9, 10}};
        for (int[] p : pairs) {
            String a = p[0] < 0 ? "(0-" + -p[0] + ")" : "" + p[0];
            String b = p[1] < 0 ? "(0-" + -p[1] + ")" : "" + p[1];
            int cut = Math.abs(p[0]) / Math.abs(p[1]) * (p[0] < 0 == p[1] < 0 ? 1 : -1);
            int rest = Math.abs(p[0]) % Math.abs(p[1]) * (p[0] < 0 ? -1 : 1);
            same("/ cuts towards 0", a + "/" + b, "0+" + (cut < 0 ? "(0-" + -cut + ")" : cut));
            same("% is what is left then (of the sign of the first)", a + "%" + b,
                    "0+" + (rest < 0 ? "(0-" + -rest + ")" : rest));
        }
        same("by 0 both are 0: /", "7/0", "0");
        same("by 0 both are 0: %", "7%0", "0");
        same("by 0 both are 0: below 0, /", "(-7)/0", "0");
        same("by 0 both are 0: below 0, %", "(-7)%0", "0");
        same("by 0 both are 0: 0 / 0", "0/0", "0");
        same("by 0 both are 0: 0 % 0", "0%0", "0");
        same("by 0 both are 0: a SUM that is 0", "7/(3-3)+7%(2*0)", "0");
        same("/ of the least by -1", "(-1000*1000)/(-1)", "1000*1000");
        same("% of the least by -1", "(-1000*1000)%(-1)", "0");
    }

    private static void order() {
        same("From the left: -", "9-3-2", "4");
        same("From the left: - and +", "9-3+2", "8");
        same("From the left: /", "100/5/2", "10");
        same("From the left: / and *", "7/2*2", "6");
        same("From the left: * and /", "7*2/2", "7");
        same("From the left: %", "17%10%4", "3");
        same("From the left: % and *", "17%10*2", "14");
        same("From the left: * and %", "5*3%4", "3");
        same("PRODUCTS ahead of SUMS", "2+3*4-6/2", "11");
        same("( SUM ) ahead of PRODUCTS", "(2+3)*4", "20");
        same("- ONE is of one ONE", "-2*3+10", "4");
        same("- ONE is of one ONE, not of what is added", "-2+10", "8");
        same("- ONE behind an order", "2*-3+10", "4");
        same("- ONE of - ONE", "7--2", "9");
        same("-7 % 4: of ONE first", "-7%4", "0-3");
        same("kinds ONE is of one ONE", "kinds 11*2", "6");
        same("kinds ONE is of one ONE, not of what is added", "kinds 11-11", "0-8");
        same("kinds of kinds", "kinds kinds 0", "0");
        same("kinds of - ONE", "kinds -0", "1");
        same("- of kinds", "-kinds 11", "0-3");
    }

    /** Of each way that three ASKS can be: by hand, and by the SUM. */
    private static void asksOfThree() {
        String[] so = {"2<1", "1<2"};
        for (int i = 0; i < 8; i++) {
            boolean a = (i & 1) != 0;
            boolean b = (i & 2) != 0;
            boolean c = (i & 4) != 0;
            String x = so[i & 1];
            String y = so[i >> 1 & 1];
            String z = so[i >> 2];
            asked(x + " or " + y + " or " + z, a || b || c);
            asked(x + " and " + y + " and " + z, a && b && c);
            asked(x + " or " + y + " and " + z, a || b && c);
            asked(x + " and " + y + " or " + z, a && b || c);
            asked("not " + x + " or " + y + " and " + z, !a || b && c);
            asked("not " + x + " and " + y + " or " + z, !a && b || c);
            asked(x + " and not " + y + " or not " + z, a && !b || !c);
            asked("not not " + x + " and not not not " + y + " or not not " + z, a && !b || c);
        }
    }

    private static void asked(String either, boolean yes) {
        FilmLooksBack x = Due.test(18, "EITHER, BOTH, ASK: " + either);
        Tape.rule(x, "cues if " + either + " then 1 else 2 end;");
        Due.is("ofScene(0, 7)", x.ofScene(0, 7), yes ? 1 : 2);
    }

    /** As many parts as 300 bytes hold: none is left out, none is too many. */
    private static void manyParts() {
        sum("PRODUCT {+ or - PRODUCT}: 145 of them", "1" + "+0".repeat(143) + "+5", 6);
        sum("from the left: 145 of them", "99" + "-1".repeat(88) + "+0".repeat(54) + "*7", 11);
        sum("ONE {* or / or % ONE}: 145 of them", "7" + "*1".repeat(143) + "*2", 14);
        sum("from the left: 144 of them", "3*8" + "*3/3".repeat(71), 24);
        sum("BOTH {or BOTH}: 50 of them, the last is so", "if 1=2" + "or1=2".repeat(48) + "or1=1then 3else 4end", 3);
        sum("BOTH {or BOTH}: 50 of them, none is so", "if 1=2" + "or1=2".repeat(49) + "then 3else 4end", 4);
        sum("ASK {and ASK}: 42 of them, all are so", "if 1=1" + "and1=1".repeat(41) + "then 3else 4end", 3);
        sum("ASK {and ASK}: 42 of them, the last is not", "if 1=1" + "and1=1".repeat(40) + "and1=2then 3else 4end", 4);
        sum("eight ifs around one another, each in a PRODUCT of a SUM of an ASK of a BOTH of an EITHER",
                "if 0=1or1=1and1<0+1*".repeat(8) + "5" + "then1else2end ".repeat(8), 2);
        sum("the same, by another innermost", "if 0=1or1=1and1<0+1*".repeat(8) + "0" + "then1else2end ".repeat(8), 1);
        fine("{CLAUSE}: as many bytes as there can be", "cues 0" + "+1".repeat(146) + ";");
        faulty("the end, at the length: as many bytes as there can be", "cues 10" + "+1".repeat(146) + "+", 1, 300);
    }

    private static void asks() {
        String[] signs = {"<", "<=", ">", ">=", "=", "#"};
        String[] due = {"001", "011", "100", "110", "010", "101"};
        for (int i = 0; i < signs.length; i++) {
            for (int b = 0; b < 3; b++) {
                boolean yes = due[i].charAt(b) == '1';
                sum("SUM one of < <= > >= = # SUM", "if 5" + signs[i] + (4 + b) + " then 1 else 2 end", yes ? 1 : 2);
                sum("not SUM one of < <= > >= = # SUM", "if not 5" + signs[i] + (4 + b) + " then 1 else 2 end",
                        yes ? 2 : 1);
            }
        }
        sum("or: none", "if 2<1 or 2<1 then 1 else 2 end", 2);
        sum("or: the first", "if 1<2 or 2<1 then 1 else 2 end", 1);
        sum("or: the second", "if 2<1 or 1<2 then 1 else 2 end", 1);
        sum("or: both", "if 1<2 or 1<2 then 1 else 2 end", 1);
        sum("or: the third", "if 2<1 or 2<1 or 1<2 then 1 else 2 end", 1);
        sum("and: none", "if 2<1 and 2<1 then 1 else 2 end", 2);
        sum("and: the first", "if 1<2 and 2<1 then 1 else 2 end", 2);
        sum("and: the second", "if 2<1 and 1<2 then 1 else 2 end", 2);
        sum("and: both", "if 1<2 and 1<2 then 1 else 2 end", 1);
        sum("and: not the third", "if 1<2 and 1<2 and 2<1 then 1 else 2 end", 2);
        sum("EITHER of BOTH: and ahead of or, behind it", "if 1<2 or 1<2 and 2<1 then 1 else 2 end", 1);
        sum("EITHER of BOTH: and ahead of or, in front", "if 2<1 and 2<1 or 1<2 then 1 else 2 end", 1);
        sum("not of one ASK: not and", "if not 1<2 and 2<1 then 1 else 2 end", 2);
        sum("not of one ASK: not or", "if not 1<2 or 1<2 then 1 else 2 end", 1);
        sum("not of not", "if not not 1<2 then 1 else 2 end", 1);
        sum("not of what isn't so", "if not 2<1 then 1 else 2 end", 1);
        sum("or and and look at both sides always: by 0", "if 1<2 or 1/0>5%0 then 1 else 2 end", 1);
        sum("the SUM that is chosen: then", "if 1<2 then 3+4 else 5+6 end", 7);
        sum("the SUM that is chosen: else", "if 2<1 then 3+4 else 5+6 end", 11);
        sum("if within then", "if 1<2 then if 2<1 then 3 else 4 end else 5 end", 4);
        sum("if within else", "if 2<1 then 3 else if 1<2 then 4 else 5 end end", 4);
        sum("if within its own ASK", "if if 1<2 then 3 else 4 end=3 then 5 else 6 end", 5);
        sum("if is ONE", "2*if 1<2 then 3 else 4 end*5", 30);
    }

    private static void kinds() {
        sum("kinds ONE: SCENE 0", "kinds 0", 1);
        sum("kinds ONE: SCENE 11", "kinds 11", 3);
        sum("kinds ONE: SCENE 1", "kinds 1", 0);
        sum("0 for others: THE END", "kinds 12+5", 5);
        sum("0 for others: -1", "kinds -1+5", 5);
        sum("0 for others: 9999", "kinds 9999+5", 5);
        sum("0 for others: 1000000", "kinds (1000*1000)+5", 5);
        sum("0 for others: -1000000", "kinds (-1000*1000)+5", 5);
        FilmLooksBack x = Due.test(18, "kinds ONE: KIND as it is told now");
        Tape.rule(x, "cues kinds scene;");
        Due.is("ofScene(7, 7)", x.ofScene(7, 7), 0);
        x.kind(7, 2);
        Due.is("ofScene(7, 7)", x.ofScene(7, 7), 2);
        x = Due.test(18, "kinds in stays: KIND of THE END is 0");
        Tape.rule(x, "cues 2;stays 1-kinds next;");
        x.scene(0, 2, 12);
        x.evening(1);
        Due.is("changed()", x.changed(), 1);
    }

    private static void lawLimits() {
        String[][] cues = {{"0-1", "0"}, {"0", "0"}, {"3", "3"}, {"4", "3"}, {"9999*9999", "3"}, {"-9999*9999", "0"}};
        for (String[] c : cues) {
            FilmLooksBack x = Due.test(18, "cues: 0 at least, 3 at most: " + c[0]);
            Tape.rule(x, "cues " + c[0] + ";");
            Due.is("ofScene(5, 7)", x.ofScene(5, 7), Integer.parseInt(c[1]));
            for (int cue = 0; cue < 4; cue++) {
                x.scene(0, cue, 8 + cue);
            }
            x.evening(1);
            Due.is("SCENES", x.book(0, 1), 5 - Integer.parseInt(c[1]));
        }
        String[][] gladdens = {{"0-1", "0"}, {"0", "0"}, {"99", "99"}, {"100", "99"}, {"-9999*9999", "0"}};
        for (String[] g : gladdens) {
            FilmLooksBack x = Due.test(17, "gladdens: 0 at least, 99 at most: " + g[0]);
            Tape.rule(x, "gladdens " + g[0] + ";");
            x.person(5, 1);
            Due.is("of(0, 3)", x.of(0, 3), Integer.parseInt(g[1]));
            x.evening(1);
            Due.is("of(0, 2)", x.of(0, 2), Integer.parseInt(g[1]));
        }
        FilmLooksBack x = Due.test(17, "gladdens without: PLAIN of that PERSON, by a TEXT without it, too");
        Tape.rule(x, "cues 0;");
        x.person(0, 1);
        x.person(9, 1);
        Due.is("of(0, 3)", x.of(0, 3), 0);
        Due.is("of(1, 3)", x.of(1, 3), 9);
        x = Due.test(18, "cues without, by a TEXT that has others: by draw");
        Tape.rule(x, "stays 0;gladdens 1;");
        x.person(0, 1);
        x.scene(0, 3, 12);
        Houses.drawing(x, 3);
        x.evening(1);
        Due.is("SCENES", x.book(0, 1), 1);
        Due.is("changed()", x.changed(), 0);
        x = Due.test(13, "stays without, by a TEXT that has others: 1, if cue is 1");
        Tape.rule(x, "cues 1;gladdens 1;");
        x.scene(0, 1, 12);
        x.evening(1);
        Due.is("changed()", x.changed(), 1);
    }

    private static void knownNames() {
        FilmLooksBack x = Due.test(17, "day, seen (how many PERSONS), plain (of those SEEN together) in all");
        x.person(9, 1);
        x.person(8, 7);
        x.person(7, 6);
        x.evening(3);
        Tape.rule(x, "gladdens plain+day*10+seen;cues seen;");
        Due.is("of(1, 3)", x.of(1, 3), 48);
        Due.is("ofScene(0, 7)", x.ofScene(0, 7), 2);
        x = Due.test(17, "seen and plain: nobody");
        x.person(9, 0);
        Tape.rule(x, "gladdens 50+seen+plain;");
        Due.is("of(0, 3)", x.of(0, 3), 50);
        x = Due.test(17, "seen and plain: 8 of 9");
        for (int p = 0; p < 8; p++) {
            x.person(9, 6);
        }
        Tape.rule(x, "gladdens seen+plain;");
        Due.is("of(7, 3)", x.of(7, 3), 80);
        x = Due.test(17, "who (the number), glad, row, long (how many SCENES) in gladdens");
        x.person(5, 3);
        x.person(5, 2);
        x.evening(1);
        String[] names = {"who", "glad", "row", "long"};
        int[] due = {1, 5, 2, 1};
        for (int i = 0; i < 4; i++) {
            x.by(Tape.read(x, "gladdens " + names[i] + ";"));
            Due.is(names[i], x.of(1, 3), due[i]);
        }
        x = Due.test(13, "long: of that EVENING, 12 and 30");
        Tape.rule(x, "gladdens long;");
        x.person(5, 1);
        x.evening(1);
        Due.is("GLAD", x.of(0, 2), 12);
        x = Due.test(18, "scene, shown (how often ahead of this time), draw in cues");
        Tape.rule(x, "cues scene-8;");
        Due.is("scene", x.ofScene(10, 7), 2);
        Tape.rule(x, "cues shown+1;");
        Due.is("shown", x.ofScene(10, 7), 1);
        Tape.rule(x, "cues draw+1;");
        Due.is("draw", x.ofScene(10, 7), 1);
        x = Due.test(13, "shown: 0 the first time it is SHOWN");
        Tape.rule(x, "cues if shown=0 then 3 else 0 end;stays 0;");
        x.scene(0, 3, 12);
        x.evening(1);
        Due.is("SCENES", x.book(0, 1), 1);
        x.evening(1);
        Due.is("SCENES", x.book(1, 1), 12);
        x = Due.test(13, "scene, cue, next in stays: the SCENE it leads from");
        Tape.rule(x, "cues 2;stays if scene=0 and cue=2 and next=5 then 1 else 0 end;");
        x.scene(0, 2, 5);
        x.scene(5, 2, 12);
        x.evening(1);
        Due.is("changed()", x.changed(), 1);
        Due.is("CHANGES", x.book(0, 3), 1);
        x = Due.test(13, "scene, cue, next in stays, of a TEXT without cues");
        Tape.rule(x, "stays if scene=5 and cue=2 and next=12 then 1 else 0 end;");
        x.person(1, 1);
        x.scene(0, 2, 5);
        x.scene(5, 2, 12);
        Houses.drawing(x, 2, 2);
        x.evening(1);
        Due.is("SCENES", x.book(0, 1), 2);
        Due.is("changed()", x.changed(), 32);
        x = Due.test(13, "next in stays: THE END is 12");
        Tape.rule(x, "cues 2;stays next-11;");
        x.scene(0, 2, 5);
        x.scene(5, 2, 12);
        x.evening(1);
        Due.is("changed()", x.changed(), 32);
        x = Due.test(13, "day in cues and stays: the EVENING's own, 0 at first");
        Tape.rule(x, "cues 2;stays day;");
        x.scene(0, 2, 12);
        x.evening(1);
        Due.is("changed()", x.changed(), 0);
        x.evening(1);
        Due.is("changed()", x.changed(), 1);
    }

    private static void played() {
        FilmLooksBack x = Due.test(14, "its CLAUSES but laws, in their order, as by hand: each");
        Tape.read(x, "scene 3 by 1 to 9;kind 2 of 7;person 5 row 2;seat 0 in 4;call 3 by 1;evening 2;");
        Due.is("played(0)", x.played(0), NONE);
        Due.is("scene", x.ofScene(3, 1), 9);
        Due.is("kind", x.ofScene(7, 5), 2);
        Due.is("person: PLAIN", x.of(0, 0), 5);
        Due.is("seat", x.of(0, 1), 4);
        Due.is("call", x.ofScene(3, 0), 9);
        Due.is("evening", x.is(0), 2);
        Due.is("SEATED, CALLED, an EVENING (each) are STEPS", x.about(3), 4);
        x = Due.test(14, "in their order: mend behind call");
        Tape.read(x, "scene 3 by 1 to 9;call 3 by 1;mend 3;evening 1;");
        Due.is("played(0)", x.played(0), NONE);
        Due.is("SHOWN", x.ofScene(4, 6), 1);
        Due.is("changed()", x.changed(), 0);
        x = Due.test(14, "scene by 0: so and AS TOLD");
        Tape.read(x, "scene 3 by 0 to 9;");
        Due.is("played(0)", x.played(0), NONE);
        Due.is("ofScene(3, 0)", x.ofScene(3, 0), 9);
        Due.is("ofScene(3, 4)", x.ofScene(3, 4), 9);
        Due.is("STEPS", x.about(3), 0);
        x = Due.test(14, "but laws: they don't rule by that");
        Tape.read(x, "cues 3;gladdens 9;");
        Due.is("played(0)", x.played(0), NONE);
        Due.is("about(2)", x.about(2), NONE);
        Due.is("ofScene(0, 7)", x.ofScene(0, 7), 0);
        x = Due.test(14, "THE TEXT rules while another is PLAYED");
        Tape.rule(x, "cues 0;gladdens 3;");
        Tape.read(x, "gladdens 9;evening 1;");
        x.person(5, 1);
        Due.is("played(1)", x.played(1), NONE);
        Due.is("GLAD", x.of(0, 2), 3);
        x = Due.test(14, "TEXT 3, the greatest");
        for (int t = 0; t < 4; t++) {
            Tape.read(x, "kind " + t + " of 0;");
        }
        Due.is("played(3)", x.played(3), NONE);
        Due.is("ofScene(0, 5)", x.ofScene(0, 5), 3);
        x = Due.test(14, "all 24 CLAUSES");
        Tape.read(x, "evening 40;".repeat(23) + "evening 39;");
        Due.is("played(0)", x.played(0), NONE);
        Due.is("DAY", x.is(0), 959);
        Due.is("STEPS", x.about(3), 30);
    }

    private static void playedTill() {
        String[] ones = {"seat 0 in 4;", "seat 1 in 4;", "call 3 by 1;", "mend 3;"};
        for (String one : ones) {
            FilmLooksBack x = Due.test(14, "one that can't be ends it: its number, what was done stays: " + one);
            x.person(5, 4);
            Tape.read(x, "kind 2 of 7;" + one + "kind 3 of 7;");
            Due.is("played(0)", x.played(0), 1);
            Due.is("ofScene(7, 5)", x.ofScene(7, 5), 2);
            Due.is("STEPS", x.about(3), 0);
        }
        FilmLooksBack x = Due.test(14, "one that can't be: the ninth PERSON");
        Tape.read(x, "person 1 row 1;".repeat(9) + "kind 3 of 7;");
        Due.is("played(0)", x.played(0), 8);
        Due.is("PERSONS", x.about(0), 8);
        Due.is("the next is not come to", x.ofScene(7, 5), 0);
        x = Due.test(14, "its number among all CLAUSES (from 0): the first");
        Tape.read(x, "mend 0;");
        Due.is("played(0)", x.played(0), 0);
        x = Due.test(14, "its number among all CLAUSES: laws are counted, the last of 24");
        Tape.read(x, "cues 1;kind 1 of 1;stays 1;" + "kind 0 of 0;".repeat(19) + "gladdens 1;mend 0;");
        Due.is("played(0)", x.played(0), 23);
        x = Due.test(14, "of so many EVENINGS those that can be are: 9 of 40");
        x = Houses.onDay(9990);
        Due.is("a second TEXT", Tape.read(x, "kind 1 of 7;evening 40;kind 2 of 7;"), 1);
        Due.is("played(1)", x.played(1), 1);
        Due.is("DAY", x.is(0), 9999);
        Due.is("ofScene(7, 5)", x.ofScene(7, 5), 1);
        Due.is("undo()", x.undo(), 29);
        Due.is("DAY", x.is(0), 9998);
        x = Due.test(14, "of so many EVENINGS: all of 9 can be, to DAY 9999 just");
        x = Houses.onDay(9990);
        Tape.read(x, "evening 9;kind 2 of 7;");
        Due.is("played(1)", x.played(1), NONE);
        Due.is("DAY", x.is(0), 9999);
        Due.is("ofScene(7, 5)", x.ofScene(7, 5), 2);
        x = Due.test(14, "as by hand: what was SEATED in it can be taken back alone");
        x.person(5, 4);
        Tape.read(x, "seat 0 in 5;seat 0 in 6;mend 0;");
        Due.is("played(0)", x.played(0), 2);
        Due.is("undo()", x.undo(), 1);
        Due.is("row", x.of(0, 1), 5);
        x = Due.test(14, "PLAYED again: it begins anew");
        Tape.read(x, "person 5 row 2;");
        x.played(0);
        Due.is("played(0)", x.played(0), NONE);
        Due.is("PERSONS", x.about(0), 2);
    }
}
