/** For each promise what it asks: ordinary calls, the edges that the document names, and wrong ones. */
public final class Promises {
    private static final int NONE = FilmLooksBack.NONE;

    private static void due(int promise, String call, long got, long want) {
        Due.of(promise);
        Due.is(call, got, want);
    }

    private static void due(int promise, String call, boolean got, boolean want) {
        due(promise, call, got ? 1 : 0, want ? 1 : 0);
    }

    /** A new house where this text rules. */
    private static FilmLooksBack ruled(String text) {
        FilmLooksBack x = new FilmLooksBack();
        due(7, text, Tape.read(x, text), 0);
        due(9, "by(0)", x.by(0), true);
        return x;
    }

    private static void faulty(String text, int fault, int place) {
        FilmLooksBack x = new FilmLooksBack();
        due(7, text, Tape.read(x, text), NONE);
        due(8, "fault(0) of " + text, x.fault(0), fault);
        due(8, "fault(1) of " + text, x.fault(1), place);
        due(7, "about(1) behind " + text, x.about(1), 0);
        due(7, "about(6) behind " + text, x.about(6), 0);
    }

    private static void fine(String text) {
        FilmLooksBack x = new FilmLooksBack();
        due(7, text, Tape.read(x, text), 0);
        due(8, "fault(0) of " + text, x.fault(0), 0);
        due(8, "fault(1) of " + text, x.fault(1), NONE);
    }

    /** What a sum of gladdens says for one PERSON of PLAIN 4 in row 3, on DAY 0, all SCENES of KIND 0 but 5: 2. */
    private static void sum(String sum, int want) {
        FilmLooksBack x = ruled("gladdens " + sum + ";");
        x.person(4, 3);
        x.kind(5, 2);
        due(17, "of(0, 3) by gladdens " + sum, x.of(0, 3), want);
    }

    public static void main(String[] args) {
        aNewObject();
        sceneAndKind();
        personAndOf();
        tapeAndTexts();
        faults();
        sums();
        lawsRule();
        seatCallMend();
        evenings();
        lastDays();
        textsPlayed();
        yearsBySeed();
        stepsTakenBack();
        whatIsTold();
        bookAndLedger();
        foretold();
        rowAndRun();
        shortestWays();
        plays();
        oddsAndWays();
        likeScenes();
        roundDeadFar();
        seventhRow();
        rosters();
        whoseLaw();
        gladdestAndOften();
        anImage();
        about();
        Due.end();
    }

    private static void aNewObject() {
        FilmLooksBack x = new FilmLooksBack();
        for (int what = 0; what < 7; what++) {
            due(1, "about(" + what + ")", x.about(what), what == 2 ? NONE : 0);
        }
        for (int s = 0; s < 12; s++) {
            for (int c = 0; c < 5; c++) {
                due(1, "ofScene(" + s + ", " + c + ")", x.ofScene(s, c), s + 1);
            }
            due(1, "KIND", x.ofScene(s, 5), 0);
            due(1, "SHOWN", x.ofScene(s, 6), 0);
        }
        due(1, "is(0)", x.is(0), 0);
        due(1, "is(1)", x.is(1), 199);
        due(1, "is(2)", x.is(2), 0);
        due(1, "is(3)", x.is(3), 0);
        due(1, "look(0) sees all 12", x.look(0), 4094);
        x.person(1, 1);
        x.scene(3, 2, 2);
        x.evening(2);
        due(1, "back() to the new one", x.back(), 0);
        due(1, "nobody", x.about(0), 0);
        due(1, "no step", x.undo(), NONE);
        due(1, "X", x.is(1), 199);
        due(1, "NEXT", x.ofScene(3, 2), 4);
        due(1, "the seventh row anew", x.look(0), 4094);
    }

    private static void sceneAndKind() {
        FilmLooksBack x = new FilmLooksBack();
        due(2, "scene(11, 3, 0)", x.scene(11, 3, 0), true);
        due(2, "ofScene(11, 3)", x.ofScene(11, 3), 0);
        due(2, "ofScene(11, 2)", x.ofScene(11, 2), 12);
        due(2, "scene(0, 0, 12)", x.scene(0, 0, 12), true);
        due(2, "ofScene(0, 0)", x.ofScene(0, 0), 12);
        due(2, "ofScene(0, 4)", x.ofScene(0, 4), 12);
        due(2, "scene(0, 1, 0)", x.scene(0, 1, 0), true);
        due(2, "ofScene(0, 4)", x.ofScene(0, 4), 12);
        due(2, "scene(12, 0, 0)", x.scene(12, 0, 0), false);
        due(2, "scene(-1, 0, 0)", x.scene(-1, 0, 0), false);
        due(2, "scene(0, 4, 0)", x.scene(0, 4, 0), false);
        due(2, "scene(0, -1, 0)", x.scene(0, -1, 0), false);
        due(2, "scene(0, 0, 13)", x.scene(0, 0, 13), false);
        due(2, "scene(0, 0, -1)", x.scene(0, 0, -1), false);
        due(2, "nothing is done then", x.ofScene(0, 0), 12);
        due(2, "far off", x.scene(Integer.MAX_VALUE, Integer.MIN_VALUE, 0), false);
        due(2, "call(1, 1)", x.call(1, 1), false);
        x.scene(1, 1, 5);
        due(2, "call(1, 1)", x.call(1, 1), true);
        due(2, "changed", x.changed(), 2);
        x.scene(1, 0, 2);
        due(2, "told: so and AS TOLD", x.ofScene(1, 0), 2);
        due(2, "changed no more", x.changed(), 0);
        due(3, "kind(11, 3)", x.kind(11, 3), true);
        due(3, "ofScene(11, 5)", x.ofScene(11, 5), 3);
        due(3, "kind(11, 0)", x.kind(11, 0), true);
        due(3, "ofScene(11, 5)", x.ofScene(11, 5), 0);
        due(3, "kind(12, 0)", x.kind(12, 0), false);
        due(3, "kind(-1, 0)", x.kind(-1, 0), false);
        due(3, "kind(0, 4)", x.kind(0, 4), false);
        due(3, "kind(0, -1)", x.kind(0, -1), false);
        due(18, "ofScene(12, 0)", x.ofScene(12, 0), NONE);
        due(18, "ofScene(-1, 0)", x.ofScene(-1, 0), NONE);
        due(18, "ofScene(0, 8)", x.ofScene(0, 8), NONE);
        due(18, "ofScene(0, -1)", x.ofScene(0, -1), NONE);
    }

    private static void personAndOf() {
        FilmLooksBack x = new FilmLooksBack();
        due(17, "of(0, 0), nobody there", x.of(0, 0), NONE);
        due(4, "person(10, 0)", x.person(10, 0), NONE);
        due(4, "person(-1, 0)", x.person(-1, 0), NONE);
        due(4, "person(0, 10)", x.person(0, 10), NONE);
        due(4, "person(0, -1)", x.person(0, -1), NONE);
        for (int p = 0; p < 8; p++) {
            due(4, "person(" + p + ", " + (p + 1) + ")", x.person(p + 1, p), p);
        }
        due(4, "the ninth", x.person(0, 0), NONE);
        due(4, "about(0)", x.about(0), 8);
        due(19, "in rows 1 .. 6", x.is(2), 126);
        due(45, "front()", x.front(), 2 + 3 + 4 + 5 + 6 + 7);
        due(17, "of(7, 0)", x.of(7, 0), 8);
        due(17, "of(7, 1)", x.of(7, 1), 7);
        due(17, "of(7, 2)", x.of(7, 2), 0);
        due(17, "of(7, 3), seen or not", x.of(7, 3), 8);
        due(17, "of(7, 4)", x.of(7, 4), NONE);
        due(17, "of(7, -1)", x.of(7, -1), NONE);
        due(17, "of(8, 0)", x.of(8, 0), NONE);
        due(17, "of(-1, 0)", x.of(-1, 0), NONE);
        due(19, "is(4)", x.is(4), -2);
        due(19, "is(-1)", x.is(-1), -2);
    }

    private static void tapeAndTexts() {
        FilmLooksBack x = new FilmLooksBack();
        due(8, "fault(0) ahead of any", x.fault(0), NONE);
        due(8, "fault(1) ahead of any", x.fault(1), NONE);
        for (int i = 1; i <= 15; i++) {
            due(5, "feed", x.feed(-1, 0, 1, 2, 3), 20 * i);
        }
        due(5, "no more than 300", x.feed(0, 0, 0, 0, 0), NONE);
        due(5, "and none came", x.about(6), 300);
        due(6, "end(301)", x.end(301), NONE);
        due(6, "end(-1)", x.end(-1), NONE);
        due(6, "end(300)", x.end(300), 300);
        due(6, "end(281)", x.end(281), 281);
        due(5, "20 behind 281", x.feed(0, 0, 0, 0, 0), NONE);
        due(6, "end(280)", x.end(280), 280);
        due(5, "20 behind 280", x.feed(0, 0, 0, 0, 0), 300);
        due(6, "end(0)", x.end(0), 0);
        due(7, "an empty tape is a TEXT", x.text(), 0);
        due(8, "fault(0)", x.fault(0), 0);
        due(8, "fault(1)", x.fault(1), NONE);
        due(8, "fault(2)", x.fault(2), NONE);
        due(8, "fault(-1)", x.fault(-1), NONE);
        due(5, "the highest byte first: mend", x.feed(0x6d656e64, 0x20303b00, 0, 0, 0), 20);
        due(6, "end(7)", x.end(7), 7);
        due(7, "mend 0;", x.text(), 1);
        due(7, "the tape is empty then", x.about(6), 0);
        due(7, "with a FAULT", Tape.read(x, "mend"), NONE);
        due(7, "the tape is empty then, too", x.about(6), 0);
        due(7, "the third", Tape.read(x, " \n "), 2);
        due(7, "the fourth", Tape.read(x, ""), 3);
        Tape.put(x, "mend 99;");
        due(7, "a fifth", x.text(), NONE);
        due(7, "the tape stays", x.about(6), 8);
        due(8, "it was not read", x.fault(0), 0);
        due(9, "by(3)", x.by(3), true);
        due(9, "about(2)", x.about(2), 3);
        due(9, "by(4)", x.by(4), false);
        due(9, "by(-2)", x.by(-2), false);
        due(9, "about(2)", x.about(2), 3);
        due(9, "by(NONE)", x.by(NONE), true);
        due(9, "about(2)", x.about(2), NONE);
        due(9, "by(0) with no text", new FilmLooksBack().by(0), false);
    }

    private static void faults() {
        fine("cues1;stays1;gladdens1;");
        fine("\nmend\n0\n;\n");
        fine("scene 11 by 3 to 12;kind 3 of 11;person 9 row 9;seat 7 in 9;call 11 by 3;mend 11;evening 40;");
        fine("scene 0 by 0 to 0;kind 0 of 0;person 0 row 0;seat 0 in 0;call 0 by 1;mend 0;evening 1;");
        fine("mend 00000000000000000000000000011;");
        fine("cues 9999;");
        fine("mend 0;".repeat(24));
        fine("cues ((((((((1))))))));");
        fine("cues ((((1))))+((((1))))-((((((((1))))))));");
        fine("cues if not not not 1<=2 then----1 else kinds kinds 3 end;");
        fine("cues if 1<2 or 3>=4 and 5#6 then 1 else 2 end%if 1=1 then 1 else 2 end;");
        faulty("x", 1, 0);
        faulty("  $", 1, 2);
        faulty("\tmend 0;", 1, 0);
        faulty("mend 0;\u00e9", 1, 7);
        faulty(";", 1, 0);
        faulty("mend;", 1, 4);
        faulty("mend 0", 1, 6);
        faulty("mend 0  ", 1, 8);
        faulty("mend 0 0;", 1, 7);
        faulty("mend 0 10000;", 1, 7);
        faulty("Mend 0;", 1, 0);
        faulty("mends 0;", 1, 0);
        faulty("men 0;", 1, 0);
        faulty("mend -1;", 1, 5);
        faulty("scene 0 to 0 by 0;", 1, 8);
        faulty("scene 0 by 0;", 1, 12);
        faulty("kind 0 in 0;", 1, 7);
        faulty("person 0;", 1, 8);
        faulty("seat 0 of 0;", 1, 7);
        faulty("by 0;", 1, 0);
        faulty("day 0;", 1, 0);
        faulty("cues;", 1, 4);
        faulty("cues 1=2;", 1, 6);
        faulty("cues (1;", 1, 7);
        faulty("cues 1);", 1, 6);
        faulty("cues ();", 1, 6);
        faulty("cues kind 1;", 1, 5);
        faulty("cues not 1;", 1, 5);
        faulty("cues 1 not;", 1, 7);
        faulty("cues 1+;", 1, 7);
        faulty("cues 1 draw;", 1, 7);
        faulty("cues 1 who;", 1, 7);
        faulty("cues +1;", 1, 5);
        faulty("cues if 1 = < 2 then 1 else 2 end;", 1, 12);
        faulty("cues if 1<>2 then 1 else 2 end;", 1, 10);
        faulty("cues if (1<2) then 1 else 2 end;", 1, 10);
        faulty("cues if 1<2 then 1 end;", 1, 19);
        faulty("cues if 1<2 then 1 else 2;", 1, 25);
        faulty("cues if 1<2<3 then 1 else 2 end;", 1, 11);
        faulty("cues if 1<2 else 2 end;", 1, 12);
        faulty("cues 1<2;", 1, 6);
        faulty("cues 1 or 2;", 1, 7);
        faulty("cues 1!;", 1, 6);
        faulty("scene 12 by 9 to 99;", 2, 6);
        faulty("scene 0 by 4 to 99;", 2, 11);
        faulty("scene 0 by 0 to 13;", 2, 16);
        faulty("kind 4 of 0;", 2, 5);
        faulty("kind 0 of 12;", 2, 10);
        faulty("person 10 row 0;", 2, 7);
        faulty("person 0 row 10;", 2, 13);
        faulty("seat 8 in 0;", 2, 5);
        faulty("seat 0 in 10;", 2, 10);
        faulty("call 12 by 1;", 2, 5);
        faulty("call 0 by 0;", 2, 10);
        faulty("call 0 by 4;", 2, 10);
        faulty("mend 12;", 2, 5);
        faulty("evening 0;", 2, 8);
        faulty("evening 41;", 2, 8);
        faulty("evening 99999999999999999999;", 2, 8);
        faulty("cues 10000;", 2, 5);
        faulty("cues 1+4294967297;", 2, 7);
        faulty("cues (((((((((1)))))))));", 3, 13);
        faulty("cues ---------1;", 3, 13);
        faulty("cues ((((--- kinds if 1<2 then 1 else 2 end", 3, 19);
        faulty("cues ((((((( if not 1<2", 3, 16);
        faulty("cues " + "(".repeat(7) + " if (1", 3, 16);
        faulty("cues if 1<2 then 1 else (((((((((1", 3, 31);
        faulty("cues if " + "not ".repeat(8) + "1<2 then 1 else 2 end;", 3, 36);
        faulty("cues if " + "not ".repeat(7) + "(1<2 then 1 else 2 end;", 3, 36);
        fine("cues if " + "not ".repeat(7) + "1<2 and 1<(((((((2))))))) then 1 else 2 end;");
        faulty("cues 1;cues 1;", 4, 7);
        faulty("stays 1;mend 0;stays 1;", 4, 15);
        faulty("gladdens 1;gladdens who;", 4, 11);
        faulty("cues cue;", 5, 5);
        faulty("cues next;", 5, 5);
        faulty("cues who;", 5, 5);
        faulty("cues glad;", 5, 5);
        faulty("cues row;", 5, 5);
        faulty("cues long;", 5, 5);
        faulty("stays shown;", 5, 6);
        faulty("stays draw;", 5, 6);
        faulty("stays who;", 5, 6);
        faulty("gladdens scene;", 5, 9);
        faulty("gladdens shown;", 5, 9);
        faulty("gladdens draw;", 5, 9);
        faulty("gladdens cue;", 5, 9);
        faulty("gladdens next;", 5, 9);
        faulty("mend 0;".repeat(24) + "mend 0;", 6, 168);
        faulty("mend 0;".repeat(24) + "stays", 6, 168);
        faulty("mend 0;".repeat(24) + "x", 1, 168);
        faulty("cues 1;" + "mend 0;".repeat(23) + "cues", 4, 168);
    }

    private static void sums() {
        sum("0", 0);
        sum("(((((((7)))))))-2-1", 4);
        sum("if 1<2 and 2<1 then 3 else 4 end", 4);
        sum("if 2<1 and 1<2 or 1<2 then 3 else 4 end", 3);
        sum("if 1<2 then 0 else 4 end+if 2<1 then 4 else 0 end", 0);
        sum("7-2-1", 4);
        sum("7-(2-1)", 6);
        sum("2+3*4", 14);
        sum("(2+3)*4", 20);
        sum("7/2*2", 6);
        sum("17%10%4", 3);
        sum("2*7%4", 2);
        sum("-7/2+10", 7);
        sum("-7%4+10", 7);
        sum("7%(-4)", 3);
        sum("7/(-4)+10", 9);
        sum("5/0+6", 6);
        sum("5%0+6", 6);
        sum("-3", 0);
        sum("100", 99);
        sum("1000*1001-9999*100", 99);
        sum("9999*9999/9999-1", 99);
        sum("9999*9999/5000/4", 50);
        sum("9999*9999-9999*9999+1", 1);
        sum("(0-9999*9999)/(0-5000)/4", 50);
        sum("(0-9999*9999-9999)/(0-5000)/4", 50);
        sum("9999*9999*9999*9999/5000/4", 50);
        sum("9999*9999*-9999*-9999/5000/4", 50);
        sum("-9999*9999*9999/-5000/4", 50);
        sum("9999*9999+1-9999*9999", 0);
        sum("kinds 5", 2);
        sum("kinds 5*3", 6);
        sum("kinds (2+3)", 2);
        sum("kinds 12+1", 1);
        sum("kinds (-1)+1", 1);
        sum("kinds 4", 0);
        sum("-kinds 5+9", 7);
        sum("kinds kinds kinds 5", 0);
        sum("kinds -5", 0);
        sum("--5", 5);
        sum("if 1<2 then 3 else 4 end", 3);
        sum("if 2<2 then 3 else 4 end", 4);
        sum("if 2<=2 then 3 else 4 end", 3);
        sum("if 3<=2 then 3 else 4 end", 4);
        sum("if 3>2 then 3 else 4 end", 3);
        sum("if 2>2 then 3 else 4 end", 4);
        sum("if 2>=2 then 3 else 4 end", 3);
        sum("if 1>=2 then 3 else 4 end", 4);
        sum("if 2=2 then 3 else 4 end", 3);
        sum("if 1=2 then 3 else 4 end", 4);
        sum("if 1#2 then 3 else 4 end", 3);
        sum("if 2#2 then 3 else 4 end", 4);
        sum("if not 1<2 then 3 else 4 end", 4);
        sum("if not not 1<2 then 3 else 4 end", 3);
        sum("if 1<2 or 1<2 and 2<1 then 3 else 4 end", 3);
        sum("if not 1<2 or 1<2 then 3 else 4 end", 3);
        sum("if not 2<1 and 2<1 then 3 else 4 end", 4);
        sum("if 2<1 or 2<1 then 3 else 4 end", 4);
        sum("2*if 1<2 then if 1<2 then 3 else 4 end else 5 end+1", 7);
        sum("2*if 1>2 then 5 else if 1>2 then 3 else 4 end end+1", 9);
        sum("day+plain*10+seen", 41);
        sum("who*50+glad*20+row*10+long", 31);
    }

    private static void lawsRule() {
        FilmLooksBack x = ruled("cues draw+scene;stays 0;gladdens 0-1;");
        x.person(9, 2);
        due(18, "ofScene(2, 7)", x.ofScene(2, 7), 2);
        due(18, "at most 3", x.ofScene(11, 7), 3);
        due(17, "at least 0", x.of(0, 3), 0);
        x.by(NONE);
        due(18, "by none", x.ofScene(11, 7), 0);
        due(17, "PLAIN", x.of(0, 3), 9);
        x = ruled("cues draw+day;gladdens day*10+glad;");
        x.person(1, 1);
        x.person(2, 2);
        x.evening(2);
        due(18, "day", x.ofScene(3, 7), 2);
        due(17, "day and glad", x.of(1, 3), 20 + x.of(1, 2));
        x = ruled("cues shown-1;");
        due(18, "at least 0", x.ofScene(0, 7), 0);
        x.evening(3);
        due(18, "shown 3 times", x.ofScene(0, 7), 2);
        x.evening(1);
        due(18, "shown 4 times", x.ofScene(0, 7), 3);
        // cue 1 in SCENE 0 the second time it is shown, and it stays by the text alone where stays says so
        x = ruled("cues shown;stays 1-cue+scene;");
        x.scene(0, 1, 12);
        x.scene(0, 2, 5);
        due(13, "by nothing", x.evening(1), 1);
        due(20, "12 SCENES", x.book(0, 1), 12);
        due(13, "by a call", x.evening(1), 1);
        due(20, "one SCENE: shown is how often ahead of this time", x.book(1, 1), 1);
        due(44, "stays says 0", x.changed(), 0);
        due(20, "no CHANGE", x.book(1, 3), 0);
        x = ruled("cues shown;stays next-4;");
        x.scene(0, 1, 4);
        x.scene(0, 2, 5);
        x.evening(3);
        due(44, "stays by next", x.changed(), 1);
        due(18, "NEXT by cue 0", x.ofScene(0, 0), 5);
        due(18, "AS TOLD", x.ofScene(0, 4), 1);
        x = ruled("cues seen;gladdens who+10*long;");
        x.person(0, 1);
        x.person(0, 6);
        x.person(0, 7);
        x.scene(0, 2, 12);
        due(13, "one SCENE", x.evening(1), 1);
        due(17, "GLAD", x.of(0, 2), 10);
        due(17, "GLAD", x.of(1, 2), 11);
        due(17, "not seen", x.of(2, 2), 0);
        due(20, "by cue 2 nothing is changed without stays", x.book(0, 3), 0);
    }

    private static void seatCallMend() {
        FilmLooksBack x = new FilmLooksBack();
        due(10, "nobody", x.seat(0, 1), false);
        x.person(3, 0);
        due(10, "it sits there", x.seat(0, 0), false);
        due(10, "row 10", x.seat(0, 10), false);
        due(10, "row -1", x.seat(0, -1), false);
        due(10, "not there", x.seat(1, 1), false);
        due(10, "-1", x.seat(-1, 1), false);
        due(10, "no step till now", x.about(3), 0);
        due(10, "row 9", x.seat(0, 9), true);
        due(10, "of", x.of(0, 1), 9);
        due(10, "row 6", x.seat(0, 6), true);
        due(19, "seen", x.is(2), 1);
        due(10, "steps", x.about(3), 2);
        x.scene(4, 3, 12);
        due(11, "cue 0", x.call(4, 0), false);
        due(11, "cue 4", x.call(4, 4), false);
        due(11, "cue -1", x.call(4, -1), false);
        due(11, "SCENE 12", x.call(12, 3), false);
        due(11, "SCENE -1", x.call(-1, 3), false);
        due(11, "the same NEXT", x.call(4, 1), false);
        due(11, "another one", x.call(4, 3), true);
        due(11, "NEXT by cue 0", x.ofScene(4, 0), 12);
        due(11, "as told", x.ofScene(4, 4), 5);
        due(11, "again", x.call(4, 3), false);
        due(11, "back by a cue", x.call(4, 1), true);
        due(44, "as told again", x.changed(), 0);
        due(12, "nothing to mend", x.mend(4), false);
        x.call(4, 3);
        due(12, "SCENE 12", x.mend(12), false);
        due(12, "SCENE -1", x.mend(-1), false);
        due(12, "mend", x.mend(4), true);
        due(12, "NEXT", x.ofScene(4, 0), 5);
        due(12, "again", x.mend(4), false);
        due(12, "steps", x.about(3), 6);
    }

    private static void evenings() {
        FilmLooksBack x = new FilmLooksBack();
        due(13, "evening(0)", x.evening(0), NONE);
        due(13, "evening(41)", x.evening(41), NONE);
        due(13, "evening(-1)", x.evening(-1), NONE);
        due(13, "nothing is done", x.is(1), 199);
        due(13, "nobody looks on", x.evening(1), 1);
        due(20, "SCENES", x.book(0, 1), 12);
        due(19, "twelve draws", x.is(1), 16104);
        due(19, "DAY", x.is(0), 1);
        due(19, "ENDED", x.is(3), 1);
        due(18, "SHOWN", x.ofScene(11, 6), 1);
        due(13, "steps", x.about(3), 1);
        due(13, "forty", x.evening(40), 40);
        due(13, "30 can be taken back", x.about(3), 30);
        due(19, "DAY", x.is(0), 41);
        // draws 9 4 1 7 8 ..: by 1 in SCENE 2 back to SCENE 0
        x = new FilmLooksBack();
        x.person(3, 1);
        x.person(60 / 10, 0);
        x.scene(2, 1, 0);
        x.scene(1, 3, 12);
        due(13, "ends", x.evening(1), 1);
        due(20, "SCENES 0 1 2 0 1 2 ..", x.book(0, 1), 3 + 15);
        due(20, "CHANGES", x.book(0, 3), 1);
        due(18, "it stays", x.ofScene(2, 0), 0);
        due(17, "PLAIN", x.of(0, 2), 3);
        due(17, "not there", x.of(1, 2), 0);
        // 30 SCENES at most, and THE END behind the 30th counts
        x = ruled("cues if shown<29 then 1 else 2 end;stays 0;");
        x.scene(0, 1, 0);
        x.scene(0, 2, 12);
        due(13, "the 30th leads to THE END", x.evening(1), 1);
        due(20, "SCENES", x.book(0, 1), 30);
        x = ruled("cues if shown<30 then 1 else 2 end;stays 0;");
        x.scene(0, 1, 0);
        x.scene(0, 2, 12);
        x.person(1, 1);
        due(13, "the 31st would", x.evening(1), 0);
        due(20, "SCENES", x.book(0, 1), 30);
        due(17, "nobody is gladdened", x.of(0, 2), 0);
        due(19, "ENDED", x.is(3), 0);
        due(19, "DAY", x.is(0), 1);
        // the cue leads by NEXT as it is: changed in one evening, twice
        x = ruled("cues shown;stays cue%2*(9-scene);");
        x.scene(0, 1, 0);
        x.scene(0, 2, 1);
        due(13, "0 by 0 to 1 ..", x.evening(1), 1);
        due(13, "0 by 1 to 0, by 2 to 1, ..", x.evening(1), 1);
        due(20, "SCENES", x.book(1, 1), 13);
        due(20, "CHANGES", x.book(1, 3), 1);
        due(44, "changed", x.changed(), 1);
        // GLAD is 99 at most
        x = ruled("gladdens 98-glad;");
        x.person(1, 1);
        x.evening(1);
        due(17, "98", x.of(0, 2), 98);
        x.by(NONE);
        x.evening(1);
        due(17, "99", x.of(0, 2), 99);
        x.evening(1);
        due(17, "at most", x.of(0, 2), 99);
    }

    private static void lastDays() {
        FilmLooksBack x = Houses.onDay(9990);
        x.person(9, 9);
        due(13, "ten would be too many", x.evening(10), NONE);
        due(13, "nothing is done", x.is(0), 9990);
        due(21, "foretold: those that can be", x.foretold(40, 0), 9);
        x.image();
        due(14, "those that can be are", x.played(0), 0);
        due(19, "the last DAY", x.is(0), 9999);
        due(19, "ENDED", x.is(3), 9999);
        due(18, "SHOWN", x.ofScene(0, 6), 9999);
        due(13, "none can be", x.evening(1), NONE);
        due(21, "none is foretold", x.foretold(1, 0), 0);
        due(21, "there is none", x.foretold(1, 1), 0);
        due(21, "no CHANGES", x.foretold(1, 2), 0);
        due(15, "no evening in YEARS", x.years(0, 1), 9999);
        due(15, "X", x.is(1), 27334);
        due(20, "the last", x.book(29, 0), 9998);
        due(20, "the eldest", x.book(0, 0), 9969);
        due(16, "YEARS taken back", x.undo(), 29);
        due(16, "an evening taken back", x.undo(), 28);
        due(19, "DAY", x.is(0), 9998);
        due(20, "the last", x.book(29, 0), 9997);
        due(20, "the eldest", x.book(0, 0), 9968);
        due(48, "back", x.back(), 9990);
        due(13, "nine", x.evening(9), 9);
        // SHOWN is 9999 at most
        x = new FilmLooksBack();
        for (int c = 0; c < 4; c++) {
            x.scene(0, c, 0);
        }
        Tape.read(x, "evening 40;".repeat(24));
        x.played(0);
        due(18, "SHOWN", x.ofScene(0, 6), 9999);
        due(19, "none ended", x.is(3), 0);
        due(43, "OFTEN", x.often(), 0);
        due(16, "undo", x.undo(), 29);
        due(18, "SHOWN", x.ofScene(0, 6), 9999);
    }

    private static void textsPlayed() {
        FilmLooksBack x = new FilmLooksBack();
        due(14, "none", x.played(0), -2);
        due(14, "NONE", x.played(NONE), -2);
        due(14, "read", Tape.read(x, "cues 0;scene 3 by 1 to 9;kind 2 of 7;person 5 row 2;seat 0 in 4;call 3 by 1;"
                + "evening 2;mend 3;stays 0;"), 0);
        due(14, "one beside", x.played(1), -2);
        due(14, "all is done", x.played(0), NONE);
        due(14, "scene", x.ofScene(3, 1), 9);
        due(14, "kind", x.ofScene(7, 5), 2);
        due(14, "person", x.of(0, 0), 5);
        due(14, "seat", x.of(0, 1), 4);
        due(14, "DAY", x.is(0), 2);
        due(14, "called till the evenings", x.ofScene(4, 6), 0);
        due(14, "mended", x.ofScene(3, 0), 4);
        due(14, "STEPS", x.about(3), 5);
        due(14, "it doesn't rule for that", x.about(2), NONE);
        due(14, "again: the next person is told, 0 sits in 4", x.played(0), 4);
        due(14, "what was done stays", x.about(0), 2);
        due(14, "no evening", x.is(0), 2);
        Tape.read(x, "mend 1;evening 1;");
        due(14, "mend can't be", x.played(1), 0);
        Tape.read(x, "stays 1;gladdens 2;cues 0;seat 7 in 0;");
        due(14, "laws are counted", x.played(2), 3);
        Tape.read(x, "person 1 row 1;".repeat(7));
        due(14, "the ninth person", x.played(3), 6);
        due(14, "eight", x.about(0), 8);
        due(9, "by", x.by(3), true);
        x = new FilmLooksBack();
        Tape.read(x, "call 0 by 1;");
        due(14, "call can't be", x.played(0), 0);
        Tape.read(x, "");
        due(14, "nothing to do", x.played(1), NONE);
    }

    private static void yearsBySeed() {
        FilmLooksBack x = new FilmLooksBack();
        due(15, "seed -1", x.years(-1, 1), NONE);
        due(15, "seed 10000", x.years(10000, 1), NONE);
        due(15, "n 0", x.years(0, 0), NONE);
        due(15, "n 41", x.years(0, 41), NONE);
        due(15, "nothing done", x.about(3), 0);
        due(15, "X 199: an evening", x.years(0, 1), 1);
        due(15, "a STEP", x.about(3), 1);
        due(19, "13 draws", x.is(1), 9962);
        due(16, "undo", x.undo(), 0);
        due(19, "X", x.is(1), 199);
        due(19, "DAY", x.is(0), 0);
        // seed 3: X 205: 205 % 5 is 0, person 205 % 2 = 1 in row 41 % 10 = 1
        x.person(1, 5);
        x.person(1, 5);
        due(15, "SEATED", x.years(3, 1), 0);
        due(15, "row", x.of(1, 1), 1);
        due(15, "the other", x.of(0, 1), 5);
        due(19, "X", x.is(1), (205 * 443 + 331) % 30577);
        // seed 1: X 201: 201 % 5 is 1: SCENE 201 % 12 = 9 by cue 1 + 0
        x.scene(9, 1, 3);
        x.scene(9, 2, 4);
        due(15, "CALLED", x.years(1, 1), 0);
        due(15, "NEXT", x.ofScene(9, 0), 3);
        due(15, "as told", x.ofScene(9, 4), 10);
        // seed 4: X 207: 207 % 5 is 2: SCENE 207 % 12 = 3 is MENDED; seed 34: X 267, SCENE 3; seed 49: 297: SCENE 9
        due(15, "MENDED, but another", x.years(4, 1), 0);
        due(15, "NEXT", x.ofScene(9, 0), 3);
        due(15, "MENDED", x.years(49, 1), 0);
        due(15, "NEXT", x.ofScene(9, 0), 10);
        due(15, "one STEP each, even if nothing can be", x.about(3), 4);
        // seed 2: X 203: an evening
        due(15, "EVENING", x.years(2, 1), 1);
        // nobody to be seated: nothing is
        x = new FilmLooksBack();
        due(15, "nobody", x.years(3, 1), 0);
        due(15, "a STEP all the same", x.about(3), 1);
        due(15, "40 at once", x.years(9999, 40) > 0, true);
        due(15, "one STEP", x.about(3), 2);
        due(16, "undo", x.undo(), 1);
        due(19, "DAY", x.is(0), 0);
    }

    private static void stepsTakenBack() {
        FilmLooksBack x = new FilmLooksBack();
        due(16, "none", x.undo(), NONE);
        x.person(4, 0);
        x.scene(0, 1, 12);
        for (int i = 1; i <= 31; i++) {
            x.seat(0, i % 9 + 1);
        }
        due(16, "30 steps", x.about(3), 30);
        for (int i = 29; i >= 0; i--) {
            due(16, "undo", x.undo(), i);
            due(16, "row", x.of(0, 1), (i + 1) % 9 + 1);
        }
        due(16, "the 31st", x.undo(), NONE);
        due(16, "row", x.of(0, 1), 2);
        x.call(0, 1);
        x.evening(1);
        x.seat(0, 9);
        x.seat(0, 2);
        x.evening(1);
        due(17, "GLAD", x.of(0, 2), 8);
        due(16, "undo", x.undo(), 4);
        due(17, "GLAD", x.of(0, 2), 4);
        due(18, "SHOWN", x.ofScene(0, 6), 1);
        due(19, "ENDED", x.is(3), 1);
        due(20, "BOOK", x.book(NONE, 0), 1);
        due(16, "undo", x.undo(), 3);
        due(17, "row", x.of(0, 1), 9);
        due(16, "undo", x.undo(), 2);
        due(16, "undo", x.undo(), 1);
        due(17, "GLAD", x.of(0, 2), 0);
        due(19, "DAY", x.is(0), 0);
        due(19, "X", x.is(1), 199);
        due(18, "called yet", x.ofScene(0, 0), 12);
        due(16, "undo", x.undo(), 0);
        due(18, "not called", x.ofScene(0, 0), 1);
        // an EVENING each
        x.evening(3);
        due(16, "undo", x.undo(), 2);
        due(19, "DAY", x.is(0), 2);
        // changes of an evening
        x = ruled("cues 1;");
        x.scene(0, 1, 12);
        x.evening(1);
        due(44, "changed", x.changed(), 1);
        x.undo();
        due(44, "not changed", x.changed(), 0);
    }

    private static void whatIsTold() {
        FilmLooksBack x = new FilmLooksBack();
        x.person(1, 2);
        x.scene(5, 1, 0);
        x.seat(0, 3);
        x.call(5, 1);
        x.scene(5, 0, 7);
        x.kind(5, 3);
        x.person(6, 4);
        x.scene(6, 2, 1);
        x.call(5, 1);
        x.evening(1);
        due(16, "undo", x.undo(), 3);
        due(17, "GLAD of the one told since", x.of(1, 2), 0);
        due(16, "undo", x.undo(), 2);
        due(16, "undo", x.undo(), 1);
        due(18, "NEXT as told since", x.ofScene(5, 0), 7);
        due(44, "changed", x.changed(), 0);
        due(17, "row", x.of(1, 1), 4);
        due(16, "undo", x.undo(), 0);
        due(17, "row", x.of(0, 1), 2);
        due(17, "row told since", x.of(1, 1), 4);
        due(18, "KIND told since", x.ofScene(5, 5), 3);
        due(18, "NEXT told since", x.ofScene(6, 2), 1);
        due(18, "NEXT by cue 0 told since", x.ofScene(5, 0), 7);
        // steps that are kept in places used before
        for (int i = 0; i < 40; i++) {
            x.seat(0, i % 2 + 3);
        }
        x.scene(1, 0, 1);
        for (int i = 0; i < 30; i++) {
            x.undo();
        }
        due(16, "all taken back", x.undo(), NONE);
        due(18, "told since", x.ofScene(1, 0), 1);
    }

    private static void bookAndLedger() {
        FilmLooksBack x = new FilmLooksBack();
        due(20, "none", x.book(NONE, 0), 0);
        due(20, "none such", x.book(0, 0), -2);
        due(46, "none", x.ledger(true), 0);
        due(46, "none", x.ledger(false), 0);
        x.evening(1);
        for (int c = 0; c < 4; c++) {
            x.scene(0, c, 0);
        }
        x.evening(28);
        due(20, "how many", x.book(NONE, 9), 29);
        due(20, "DAY", x.book(28, 0), 28);
        due(20, "SCENES", x.book(28, 1), 30);
        due(20, "ended", x.book(28, 2), 0);
        due(20, "ended", x.book(0, 2), 1);
        due(20, "none such", x.book(29, 0), -2);
        due(20, "others", x.book(0, 4), -2);
        due(20, "others", x.book(0, -1), -2);
        due(20, "others", x.book(-2, 0), -2);
        due(46, "ended", x.ledger(true), 1);
        due(46, "didn't", x.ledger(false), 28);
        x.evening(1);
        due(46, "ended", x.ledger(true), 1);
        x.evening(1);
        due(20, "the latest 30", x.book(NONE, 0), 30);
        due(20, "the eldest", x.book(0, 0), 1);
        due(20, "the latest", x.book(29, 0), 30);
        due(46, "ended: no more in the book", x.ledger(true), 0);
        due(46, "didn't", x.ledger(false), 30);
        due(19, "ENDED", x.is(3), 1);
        x.undo();
        due(20, "it is back", x.book(0, 2), 1);
        due(46, "ended", x.ledger(true), 1);
    }

    private static void foretold() {
        FilmLooksBack x = new FilmLooksBack();
        due(21, "n 0", x.foretold(0, 0), NONE);
        due(21, "n 41", x.foretold(41, 0), NONE);
        due(21, "what 3", x.foretold(1, 3), NONE);
        due(21, "what -1", x.foretold(1, -1), NONE);
        due(21, "ends", x.foretold(40, 0), 40);
        due(21, "SCENES", x.foretold(40, 1), 12);
        due(21, "CHANGES", x.foretold(40, 2), 0);
        x = ruled("cues shown;stays 1;");
        x.scene(0, 1, 5);
        x.scene(0, 2, 6);
        x.scene(0, 3, 12);
        x.scene(5, 1, 8);
        x.person(2, 2);
        due(21, "ends", x.foretold(4, 0), 4);
        due(21, "SCENES: 12", x.foretold(1, 1), 12);
        due(21, "0 by 1: 5 by 1: 8 .. 11", x.foretold(2, 1), 6);
        due(21, "0 by 2: 6 ..", x.foretold(3, 1), 7);
        due(21, "0 by 3", x.foretold(4, 1), 1);
        due(21, "CHANGES 0, 2, 1, 1", x.foretold(4, 2), 4);
        due(21, "CHANGES 0, 2", x.foretold(2, 2), 2);
        due(21, "nothing is done", x.is(0), 0);
        due(21, "X", x.is(1), 199);
        due(21, "SHOWN", x.ofScene(0, 6), 0);
        due(21, "changed", x.changed(), 0);
        due(21, "GLAD", x.of(0, 2), 0);
        due(21, "STEPS", x.about(3), 0);
        due(21, "BOOK", x.book(NONE, 0), 0);
        due(13, "and so it comes", x.evening(4), 4);
        due(20, "SCENES", x.book(3, 1), 1);
    }

    private static void rowAndRun() {
        FilmLooksBack x = new FilmLooksBack();
        due(22, "cue(4)", x.cue(4), -2);
        due(22, "cue(-2)", x.cue(-2), -2);
        due(23, "run(0, 1) of none", x.run(0, 1), NONE);
        x.scene(0, 3, 10);
        x.scene(10, 0, 2);
        for (int i = 1; i <= 12; i++) {
            due(22, "cue", x.cue(i == 1 ? 3 : 0), i);
        }
        due(22, "the 13th", x.cue(0), -2);
        due(23, "run(0, 0)", x.run(0, 0), 0);
        due(23, "run(0, 1)", x.run(0, 1), 10);
        due(23, "run(0, 2)", x.run(0, 2), 2);
        due(23, "run(0, 9)", x.run(0, 9), 9);
        due(23, "run(1, 12)", x.run(1, 12), 4);
        due(23, "run(11, 12)", x.run(11, 12), 12);
        due(23, "run(12, 12)", x.run(12, 12), 12);
        due(23, "run(13, 0)", x.run(13, 0), NONE);
        due(23, "run(-1, 0)", x.run(-1, 0), NONE);
        due(23, "run(0, 13)", x.run(0, 13), NONE);
        due(23, "run(0, -1)", x.run(0, -1), NONE);
        x.scene(2, 2, 7);
        x.call(2, 2);
        due(23, "NEXT as it is now", x.run(0, 3), 7);
        due(22, "emptied", x.cue(NONE), 0);
        due(49, "about(4)", x.about(4), 0);
        due(22, "anew", x.cue(1), 1);
    }

    private static void shortestWays() {
        FilmLooksBack x = new FilmLooksBack();
        x.scene(0, 2, 4);
        x.scene(0, 3, 5);
        x.scene(4, 3, 8);
        x.scene(5, 1, 8);
        x.scene(8, 2, 11);
        due(24, "0 to 8", x.shortest(0, 8, NONE), 2);
        due(24, "by 2, not by 3", x.shortest(0, 8, 0), 2);
        due(24, "then by 3", x.shortest(0, 8, 1), 3);
        due(24, "none such", x.shortest(0, 8, 2), -2);
        due(24, "none such", x.shortest(0, 8, -2), -2);
        due(24, "to THE END", x.shortest(0, 12, NONE), 4);
        due(24, "third", x.shortest(0, 12, 2), 2);
        due(24, "fourth", x.shortest(0, 12, 3), 0);
        due(24, "none", x.shortest(8, 0, NONE), -2);
        due(24, "none", x.shortest(12, 0, NONE), -2);
        due(24, "it is there", x.shortest(12, 12, NONE), 0);
        due(24, "13", x.shortest(13, 0, NONE), -2);
        due(24, "13", x.shortest(0, 13, NONE), -2);
        due(24, "-1", x.shortest(-1, 0, NONE), -2);
        x.scene(3, 1, 12);
        x.call(3, 1);
        due(24, "by cue 0 as it is now", x.shortest(3, 12, 0), 0);
    }

    private static void plays() {
        FilmLooksBack x = new FilmLooksBack();
        due(25, "13", x.soonest(13, true), -2);
        due(25, "-1", x.soonest(-1, false), -2);
        due(26, "13", x.best(13, true), NONE);
        due(26, "-1", x.best(-1, false), NONE);
        due(26, "12", x.best(12, false), NONE);
        due(25, "12", x.soonest(12, false), 0);
        // 10: who wouldn't can go back to 9 by a cough; 11 ends always
        x.scene(10, 2, 9);
        due(25, "who would at 11", x.soonest(11, true), 1);
        due(25, "who wouldn't at 11", x.soonest(11, false), 1);
        due(25, "who would at 10", x.soonest(10, true), 2);
        due(25, "who wouldn't at 10", x.soonest(10, false), NONE);
        due(26, "by the cough", x.best(10, false), 2);
        due(26, "by nothing", x.best(10, true), 0);
        due(25, "who would at 9 can only go to 10", x.soonest(9, true), NONE);
        due(26, "none", x.best(9, true), NONE);
        due(25, "who wouldn't at 9 must go to 10", x.soonest(9, false), 3);
        due(25, "who would at 8", x.soonest(8, true), 4);
        // of like ones the lowest; later is better to who wouldn't
        x.scene(0, 1, 11);
        x.scene(0, 2, 12);
        x.scene(0, 3, 12);
        due(25, "who would at 0", x.soonest(0, true), 1);
        due(26, "by the cough", x.best(0, true), 2);
        due(25, "who wouldn't at 0: 1 ..", x.soonest(0, false), NONE);
        due(26, "by nothing", x.best(0, false), 0);
        x.scene(0, 0, 12);
        due(26, "by the call: latest", x.best(0, false), 1);
        due(25, "in two cues", x.soonest(0, false), 2);
    }

    private static void oddsAndWays() {
        FilmLooksBack x = new FilmLooksBack();
        due(28, "9 together", x.weigh(3, 3, 3, 0), false);
        due(28, "11 together", x.weigh(3, 3, 3, 2), false);
        due(28, "below 0", x.weigh(11, -1, 0, 0), false);
        due(28, "below 0", x.weigh(-2, 4, 4, 4), false);
        due(28, "wrapped", x.weigh(Integer.MAX_VALUE, Integer.MAX_VALUE, 12, 0), false);
        x.scene(0, 1, 12);
        x.scene(0, 3, 0);
        due(27, "1 of 10", x.odds(0, 1, false), 1);
        due(27, "1 of 10", x.odds(0, 1, true), 10);
        due(27, "11 of 100", x.odds(0, 2, false), 11);
        due(27, "11 of 100", x.odds(0, 2, true), 100);
        due(27, "n 0", x.odds(0, 0, false), 0);
        due(27, "n 0", x.odds(0, 0, true), 1);
        due(27, "THE END", x.odds(12, 9, false), 1);
        due(27, "THE END", x.odds(12, 9, true), 1);
        due(27, "111111111 of 10^9", x.odds(0, 9, false), 111111111);
        due(27, "111111111 of 10^9", x.odds(0, 9, true), 1000000000);
        due(27, "n 10", x.odds(0, 10, false), NONE);
        due(27, "n -1", x.odds(0, -1, true), NONE);
        due(27, "13", x.odds(13, 1, true), NONE);
        due(27, "-1", x.odds(-1, 1, true), NONE);
        due(28, "told", x.weigh(0, 5, 0, 5), true);
        due(27, "3 of 4", x.odds(0, 2, false), 3);
        due(27, "3 of 4", x.odds(0, 2, true), 4);
        due(28, "others change nothing", x.weigh(1, 2, 3, 5), false);
        due(27, "7 of 8", x.odds(0, 3, true), 8);
        due(28, "10 of one", x.weigh(0, 0, 0, 10), true);
        due(27, "never", x.odds(0, 9, false), 0);
        due(37, "ways(0, 1)", x.ways(0, 1), 1);
        due(37, "ways(0, 2)", x.ways(0, 2), 1);
        due(37, "ways(0, 12): 1 by the 12th, 2 * 4^11 round by SCENE 1", x.ways(0, 12), 1 + 2L * 4194304);
        due(37, "ways(1, 11)", x.ways(1, 11), 4194304);
        due(37, "ways(1, 12)", x.ways(1, 12), 0);
        due(37, "ways(0, 0)", x.ways(0, 0), 0);
        due(37, "ways(12, 0)", x.ways(12, 0), 1);
        due(37, "ways(12, 3)", x.ways(12, 3), 0);
        due(37, "ways(13, 0)", x.ways(13, 0), NONE);
        due(37, "ways(-1, 0)", x.ways(-1, 0), NONE);
        due(37, "ways(0, 13)", x.ways(0, 13), NONE);
        due(37, "ways(0, -1)", x.ways(0, -1), NONE);
    }

    private static void likeScenes() {
        FilmLooksBack x = new FilmLooksBack();
        for (int s = 0; s < 12; s++) {
            for (int c = 0; c < 4; c++) {
                x.scene(s, c, s % 2);
            }
        }
        due(29, "all alike, and THE END", x.kinds(NONE), 2);
        due(29, "kinds(11)", x.kinds(11), 0);
        due(29, "kinds(12)", x.kinds(12), 1);
        due(30, "alike", x.parts(0, 11), NONE);
        due(30, "THE END", x.parts(3, 12), 0);
        x.kind(1, 2);
        due(29, "evens, 1, odds, THE END", x.kinds(NONE), 4);
        due(29, "kinds(10)", x.kinds(10), 0);
        due(29, "kinds(1)", x.kinds(1), 1);
        due(29, "kinds(3)", x.kinds(3), 2);
        due(29, "kinds(12)", x.kinds(12), 3);
        due(30, "at once", x.parts(1, 3), 0);
        due(30, "behind one", x.parts(2, 3), 1);
        due(30, "never", x.parts(3, 5), NONE);
        x.scene(5, 3, 3);
        due(30, "3 by 3 to 1, 5 by 3 to 3", x.parts(3, 5), 1);
        x.scene(6, 3, 5);
        x.scene(8, 3, 3);
        due(30, "behind two", x.parts(6, 8), 2);
        due(29, "sorts 0 1 2(3 7 9 11) 5 6 8 and THE END", x.kinds(NONE), 7);
        due(29, "kinds(8)", x.kinds(8), 5);
        due(29, "kinds(13)", x.kinds(13), -2);
        due(29, "kinds(-2)", x.kinds(-2), -2);
        due(30, "others", x.parts(13, 0), NONE);
        due(30, "others", x.parts(0, -1), NONE);
        due(30, "itself", x.parts(6, 6), NONE);
    }

    private static void roundDeadFar() {
        FilmLooksBack x = new FilmLooksBack();
        due(31, "no", x.round(11), 0);
        x.scene(11, 3, 11);
        due(31, "by itself", x.round(11), 1);
        x.scene(7, 2, 5);
        due(31, "5 6 7", x.round(6), 1);
        due(31, "not 8", x.round(8), 0);
        due(31, "not 4", x.round(4), 0);
        due(31, "12", x.round(12), NONE);
        due(31, "-1", x.round(-1), NONE);
        due(32, "none", x.dead(), 0);
        due(33, "0", x.far(), 0);
        for (int c = 0; c < 4; c++) {
            x.scene(7, c, 5);
        }
        due(32, "0 .. 7", x.dead(), 255);
        due(33, "8", x.far(), 8);
        x.scene(8, 1, 11);
        x.scene(9, 1, 11);
        due(33, "of like ones the lowest: 8 9 10", x.far(), 8);
        for (int c = 0; c < 4; c++) {
            x.scene(11, c, 0);
        }
        due(32, "all", x.dead(), 4095);
        due(33, "none", x.far(), NONE);
    }

    private static void seventhRow() {
        FilmLooksBack x = new FilmLooksBack();
        due(34, "others", x.look(4), -2);
        due(34, "others", x.look(-2), -2);
        x.kind(0, 1);
        x.kind(1, 1);
        x.kind(5, 2);
        x.scene(0, 3, 9);
        due(34, "0 and 1, then 1, 9, 2", x.look(1), 2 + 4 + 512);
        due(35, "three", x.sure(), NONE);
        due(34, "1, then 2", x.look(1), 4);
        due(35, "2", x.sure(), 2);
        due(34, "anew", x.look(NONE), 4095);
        x.look(2);
        due(35, "6", x.sure(), 6);
        due(36, "all alike: 7", x.tells(), 0);
        x.scene(6, 2, 12);
        due(34, "7, THE END aside", x.look(0), 128);
        due(34, "none", x.look(3), 0);
        due(35, "none", x.sure(), NONE);
        due(36, "none", x.tells(), NONE);
        x.look(NONE);
        for (int s = 0; s < 12; s++) {
            x.kind(s, 0);
            x.scene(s, 2, s);
            x.scene(s, 3, s % 2 == 0 ? 12 : s);
        }
        due(36, "by nothing: KIND 0 and THE END", x.tells(), 0);
        x.kind(4, 3);
        x.scene(4, 0, 0);
        x.scene(3, 0, 0);
        x.scene(3, 1, 5);
        x.scene(11, 1, 4);
        due(36, "by a call: 0, 3; by nothing 0 and THE END; by a sigh the same", x.tells(), 0);
        x.scene(10, 1, 12);
        due(36, "by a call: 0, 3, THE END", x.tells(), 1);
    }

    private static void rosters() {
        FilmLooksBack x = new FilmLooksBack();
        due(39, "nobody", x.roster(1, NONE), 0);
        due(39, "nobody", x.roster(1, 0), NONE);
        due(38, "there or not", x.likes(7, 4, 99), true);
        due(38, "person 8", x.likes(8, 0, 0), false);
        due(38, "person -1", x.likes(-1, 0, 0), false);
        due(38, "evening 5", x.likes(0, 5, 0), false);
        due(38, "evening -1", x.likes(0, -1, 0), false);
        due(38, "100", x.likes(0, 0, 100), false);
        due(38, "-1", x.likes(0, 0, -1), false);
        x.likes(7, 4, 0);
        for (int p = 0; p < 5; p++) {
            x.person(0, 0);
        }
        for (int p = 0; p < 5; p++) {
            due(39, "one on each", x.roster(1, p), p);
            due(39, "all on the lowest", x.roster(8, p), 0);
            due(39, "two on each", x.roster(2, p), p / 2);
        }
        x.likes(0, 0, 5);
        x.likes(4, 0, 9);
        x.likes(0, 3, 2);
        due(39, "9 and 2", x.roster(1, NONE), 11);
        due(39, "4 on 0", x.roster(1, 4), 0);
        due(39, "0 on 3", x.roster(1, 0), 3);
        due(39, "1 on 1", x.roster(1, 1), 1);
        due(39, "2 on 2", x.roster(1, 2), 2);
        due(39, "3 on 4", x.roster(1, 3), 4);
        due(39, "9 and 5", x.roster(2, NONE), 14);
        due(39, "k 0", x.roster(0, NONE), NONE);
        due(39, "k 9", x.roster(9, NONE), NONE);
        due(39, "not there", x.roster(1, 5), NONE);
        due(39, "-2", x.roster(1, -2), NONE);
        x.person(0, 0);
        due(39, "too many of them", x.roster(1, NONE), NONE);
        due(39, "too many of them", x.roster(1, 0), NONE);
        due(39, "two on each", x.roster(2, NONE), 14);
        // a chain of moves: each likes its own most, the last two the same
        x = new FilmLooksBack();
        for (int p = 0; p < 5; p++) {
            x.person(0, 0);
            x.likes(p, Math.min(p, 3), 50);
            x.likes(p, Math.min(p, 3) + 1, 49);
        }
        due(39, "one moves on", x.roster(1, NONE), 249);
        due(39, "the later of like ones", x.roster(1, 4), 4);
        due(39, "the other stays", x.roster(1, 3), 3);
        // of like ones PERSON by PERSON: 6 on 0 and 7 on 4 comes ahead of 6 on 1 and 7 on 0
        x = new FilmLooksBack();
        int[] fixed = {0, 2, 2, 3, 3, 4};
        for (int p = 0; p < 8; p++) {
            x.person(0, 0);
            if (p < 6) {
                x.likes(p, fixed[p], 99);
            }
        }
        x.likes(6, 0, 5);
        x.likes(6, 1, 5);
        x.likes(7, 0, 5);
        x.likes(7, 4, 5);
        due(39, "together", x.roster(2, NONE), 6 * 99 + 10);
        due(39, "6 on the lowest", x.roster(2, 6), 0);
        due(39, "7 on the other", x.roster(2, 7), 4);
    }

    private static void whoseLaw() {
        FilmLooksBack x = new FilmLooksBack();
        due(41, "no TEXT", x.whose(), 0);
        due(40, "nobody there", x.felt(0, 3), -2);
        x.person(3, 2);
        x.person(5, 9);
        Tape.read(x, "gladdens plain+who;");
        Tape.read(x, "cues 1;");
        Tape.read(x, "gladdens 3+long-1;");
        due(41, "none felt: all", x.whose(), 7);
        due(40, "felt(0, 3)", x.felt(0, 3), 1);
        due(41, "all", x.whose(), 7);
        due(40, "felt(1, 5)", x.felt(1, 5), 2);
        due(41, "without it: PLAIN", x.whose(), 2);
        due(40, "100", x.felt(0, 100), -2);
        due(40, "-1", x.felt(0, -1), -2);
        due(40, "-2", x.felt(-2, 0), -2);
        due(40, "2", x.felt(2, 0), -2);
        due(40, "none any more", x.felt(NONE, 7), 0);
        due(40, "about(5)", x.about(5), 0);
        for (int i = 1; i <= 8; i++) {
            due(40, "felt", x.felt(1, 4), i);
        }
        due(40, "the ninth", x.felt(1, 4), -2);
        due(41, "by plain and who", x.whose(), 1);
        x.seat(0, 9);
        due(41, "as now", x.whose(), 0);
    }

    private static void gladdestAndOften() {
        FilmLooksBack x = new FilmLooksBack();
        due(42, "none", x.gladdest(), NONE);
        x.person(1, 1);
        x.person(4, 1);
        x.person(4, 1);
        x.person(9, 9);
        due(42, "of like ones the lowest", x.gladdest(), 0);
        x.by(NONE);
        for (int s = 0; s < 12; s++) {
            for (int c = 0; c < 4; c++) {
                x.scene(s, c, s + 1);
            }
        }
        x.evening(1);
        due(42, "of like ones the lowest", x.gladdest(), 1);
        due(43, "of like ones the lowest", x.often(), 0);
        for (int c = 0; c < 4; c++) {
            x.scene(0, c, 9);
        }
        x.evening(1);
        due(43, "0 and 9 .. 11", x.often(), 0);
        for (int c = 0; c < 4; c++) {
            x.scene(9, c, 9);
        }
        x.evening(1);
        due(43, "9", x.often(), 9);
        x.seat(3, 1);
        due(45, "front", x.front(), 18);
        x.seat(3, 0);
        due(45, "front", x.front(), 9);
        x.scene(3, 1, 0);
        x.scene(11, 1, 0);
        x.call(3, 1);
        x.call(11, 1);
        due(44, "bits", x.changed(), 8 + 2048);
        x.mend(3);
        due(44, "bits", x.changed(), 2048);
    }

    private static void anImage() {
        FilmLooksBack x = new FilmLooksBack();
        x.person(2, 2);
        Tape.read(x, "gladdens 7;");
        x.by(0);
        x.scene(0, 1, 3);
        x.call(0, 1);
        x.evening(2);
        x.kind(4, 2);
        x.cue(1);
        x.weigh(1, 1, 1, 7);
        x.look(2);
        x.likes(0, 2, 30);
        x.felt(0, 7);
        int drawn = x.is(1);
        due(47, "DAY", x.image(), 2);
        x.evening(1);
        x.undo();
        x.undo();
        x.undo();
        x.undo();
        x.person(1, 1);
        Tape.read(x, "gladdens 1;");
        x.by(1);
        x.scene(0, 0, 12);
        x.scene(0, 1, 12);
        x.kind(4, 0);
        x.cue(2);
        x.weigh(10, 0, 0, 0);
        x.look(NONE);
        x.likes(0, 2, 0);
        x.felt(NONE, 0);
        x.feed(1, 2, 3, 4, 5);
        due(48, "DAY", x.back(), 2);
        due(48, "PERSONS", x.about(0), 1);
        due(48, "TEXTS", x.about(1), 1);
        due(48, "THE TEXT", x.about(2), 0);
        due(48, "STEPS", x.about(3), 3);
        due(48, "THE ROW", x.about(4), 1);
        due(48, "FELT", x.about(5), 1);
        due(48, "but the tape", x.about(6), 20);
        due(48, "but the FAULT", x.fault(0), 0);
        due(48, "NEXT", x.ofScene(0, 0), 3);
        due(48, "as told", x.ofScene(0, 4), 1);
        due(48, "NEXT by 1", x.ofScene(0, 1), 3);
        due(48, "KIND", x.ofScene(4, 5), 2);
        due(48, "X", x.is(1), drawn);
        due(48, "GLAD", x.of(0, 2), 14);
        due(48, "LIKES", x.roster(1, NONE), 30);
        due(48, "ODDS", x.odds(11, 1, false), 1);
        due(48, "the seventh row", x.sure(), 5);
        due(48, "WHOSE", x.whose(), 1);
        due(48, "the cue", x.run(0, 1), 3);
        due(48, "the latest STEP", x.undo(), 2);
        due(48, "DAY", x.is(0), 1);
        x.undo();
        due(48, "the first", x.undo(), 0);
        due(48, "NEXT", x.ofScene(0, 0), 1);
        due(48, "it stays", x.back(), 2);
        due(48, "STEPS", x.about(3), 3);
        due(7, "another second text", Tape.read(x, "gladdens 5;"), 1);
        x.by(1);
        due(17, "rules", x.of(0, 3), 5);
        x.by(0);
        due(17, "the first is as it was", x.of(0, 3), 7);
        x.image();
        x.back();
        due(48, "a later image", x.about(1), 2);
        due(7, "a FAULT", Tape.read(x, "cues"), NONE);
        x.back();
        due(48, "the FAULT stays", x.fault(0), 1);
        due(48, "its place", x.fault(1), 4);
    }

    private static void about() {
        FilmLooksBack x = new FilmLooksBack();
        due(49, "about(7)", x.about(7), -2);
        due(49, "about(-1)", x.about(-1), -2);
        x.person(1, 1);
        x.person(1, 1);
        Tape.read(x, "");
        Tape.read(x, "");
        Tape.read(x, "");
        x.by(2);
        x.seat(0, 2);
        for (int i = 0; i < 5; i++) {
            x.cue(0);
        }
        for (int i = 0; i < 6; i++) {
            x.felt(0, 0);
        }
        x.feed(0, 0, 0, 0, 0);
        int[] want = {2, 3, 2, 1, 5, 6, 20};
        for (int what = 0; what < 7; what++) {
            due(49, "about(" + what + ")", x.about(what), want[what]);
        }
    }
}
