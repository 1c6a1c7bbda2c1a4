import java.util.List;

/**
 * For each sentence of I, of V, and of the promises beside them that names a boundary case, a test of its own: the
 * least, the greatest, empty, full, what wraps around. What is refused is in Refused.
 */
public final class Boundaries {
    private static final int NONE = FilmLooksBack.NONE;

    public static void main(String[] args) {
        atFirst();
        manyCalls();
        sceneTold();
        kindTold();
        personTold();
        seated();
        called();
        mended();
        howManyEvenings();
        howManyScenes();
        draws();
        changes();
        gladdened();
        writtenDown();
        unlikeEvenings();
        counters();
        years();
        yearsAsSteps();
        stepsEach();
        stepsInAll();
        toldSince();
        looks();
        found();
        images();
        about();
        Due.end();
    }

    private static void same(String what, FilmLooksBack x, FilmLooksBack y) {
        List<Long> a = Houses.all(x);
        List<Long> b = Houses.all(y);
        Due.is(what + ": how much can be seen", a.size(), b.size());
        for (int i = 0; i < Math.min(a.size(), b.size()); i++) {
            Due.is(what + " (" + i + ")", a.get(i), b.get(i));
        }
    }

    private static void atFirst() {
        FilmLooksBack x = Due.test(1, "at first the SCENE and 1 by each; as told");
        for (int s = 0; s < 12; s++) {
            for (int what = 0; what <= 4; what++) {
                Due.is("ofScene(" + s + ", " + what + ")", x.ofScene(s, what), s + 1);
            }
        }
        x = Due.test(1, "KIND at first 0, SHOWN at first 0");
        for (int s = 0; s < 12; s++) {
            Due.is("ofScene(" + s + ", 5)", x.ofScene(s, 5), 0);
            Due.is("ofScene(" + s + ", 6)", x.ofScene(s, 6), 0);
        }
        x = Due.test(1, "DAY, ENDED (at first 0 each), X: at first 199");
        Due.is("DAY", x.is(0), 0);
        Due.is("X", x.is(1), 199);
        Due.is("ENDED", x.is(3), 0);
        x = Due.test(1, "Nobody");
        Due.is("PERSONS", x.about(0), 0);
        Due.is("SEEN", x.is(2), 0);
        Due.is("PLAIN together", x.front(), 0);
        Due.is("GLADDEST", x.gladdest(), NONE);
        x = Due.test(1, "THE TEXT at first none");
        Due.is("TEXTS", x.about(1), 0);
        Due.is("THE TEXT", x.about(2), NONE);
        x = Due.test(1, "THE ROW at first empty, no STEP, none FELT, an empty tape, an empty BOOK");
        for (int what = 3; what < 7; what++) {
            Due.is("about(" + what + ")", x.about(what), 0);
        }
        Due.is("undo()", x.undo(), NONE);
        Due.is("book(NONE, 0)", x.book(NONE, 0), 0);
        Due.is("ledger(true)", x.ledger(true), 0);
        Due.is("ledger(false)", x.ledger(false), 0);
        x = Due.test(1, "ODDS of cues at first 7, 1, 1, 1");
        for (int c = 0; c < 4; c++) {
            Houses.leadAlways(x, c, c);
            x.scene(c, c, 12);
            Due.is("odds(" + c + ", 1, false)", x.odds(c, 1, false), c == 0 ? 7 : 1);
            Due.is("odds(" + c + ", 1, true)", x.odds(c, 1, true), 10);
        }
        for (int s = 0; s < 12; s++) {
            x = Due.test(1, "SEVENTH ROW at first all 12 SCENES, SCENE " + s);
            x.kind(s, 1);
            Due.is("look(1)", x.look(1), s < 11 ? 2 << s : 0);
        }
        x = Due.test(1, "LIKES at first 0 each");
        for (int p = 0; p < 8; p++) {
            x.person(0, 0);
            Due.is("roster(8, NONE)", x.roster(8, NONE), 0);
            Due.is("roster(8, " + p + ")", x.roster(8, p), 0);
        }
        x = Due.test(1, "THE IMAGE is this");
        x.person(1, 1);
        x.scene(3, 1, 0);
        x.kind(4, 2);
        x.call(3, 1);
        x.evening(3);
        x.cue(2);
        x.weigh(1, 2, 3, 4);
        x.look(2);
        x.likes(0, 1, 50);
        x.felt(0, 2);
        Due.is("back()", x.back(), 0);
        same("as a new one", x, new FilmLooksBack());
    }

    private static void manyCalls() {
        FilmLooksBack x = Due.test(1, "at most 512 calls after it has been made: the 512th, behind 511 that did something");
        for (int i = 0; i < 255; i++) {
            x.evening(1);
            x.undo();
        }
        Due.is("the 511th: evening(1)", x.evening(1), 1);
        Due.is("the 512th: is(1)", x.is(1), 16104);
        x = Due.test(21, "at most 512 calls after it has been made: the dearest each time");
        Tape.rule(x, "cues if not 1<2 or 1<2 and(((draw+scene)))<day then 2 else 0 end;stays if cue<3 then 1 else 0 end;");
        x.scene(11, 0, 0);
        x.scene(11, 2, 0);
        x.scene(11, 1, 12);
        int foretold = x.foretold(40, 2);
        for (int i = 0; i < 490; i++) {
            Due.is("foretold(40, 2)", x.foretold(40, 2), foretold);
        }
    }

    private static void sceneTold() {
        FilmLooksBack x = Due.test(2, "SCENE 0, cue 0, next 0: the least");
        Due.is("scene(0, 0, 0)", x.scene(0, 0, 0), true);
        Due.is("ofScene(0, 0)", x.ofScene(0, 0), 0);
        x = Due.test(2, "SCENE 11, cue 3, next 12: the greatest");
        x.scene(11, 3, 4);
        Due.is("ofScene(11, 3)", x.ofScene(11, 3), 4);
        Due.is("scene(11, 3, 12)", x.scene(11, 3, 12), true);
        Due.is("ofScene(11, 3)", x.ofScene(11, 3), 12);
        x = Due.test(2, "12 is THE END");
        Houses.leadAlways(x, 0, 12);
        Due.is("evening(1)", x.evening(1), 1);
        Due.is("one SCENE", x.book(0, 1), 1);
        x = Due.test(2, "NEXT by that cue alone is told");
        x.scene(4, 2, 9);
        for (int what = 0; what <= 4; what++) {
            Due.is("ofScene(4, " + what + ")", x.ofScene(4, what), what == 2 ? 9 : 5);
        }
        Due.is("ofScene(3, 2)", x.ofScene(3, 2), 4);
        Due.is("ofScene(5, 2)", x.ofScene(5, 2), 6);
        x = Due.test(2, "as it was told last it is AS TOLD");
        x.scene(4, 0, 7);
        x.scene(4, 0, 8);
        Due.is("ofScene(4, 0)", x.ofScene(4, 0), 8);
        Due.is("ofScene(4, 4)", x.ofScene(4, 4), 8);
        x = Due.test(2, "Telling NEXT by cue 0 makes it so and AS TOLD");
        x.scene(4, 1, 9);
        x.call(4, 1);
        x.scene(4, 0, 2);
        Due.is("ofScene(4, 0)", x.ofScene(4, 0), 2);
        Due.is("ofScene(4, 4)", x.ofScene(4, 4), 2);
        Due.is("changed()", x.changed(), 0);
        x = Due.test(2, "Telling NEXT by cue 0 as it was told makes it so again");
        x.scene(4, 1, 9);
        x.call(4, 1);
        x.scene(4, 0, 5);
        Due.is("ofScene(4, 0)", x.ofScene(4, 0), 5);
        Due.is("changed()", x.changed(), 0);
        x = Due.test(2, "NEXT by cue 0, CHANGED, stays as it is if that other cue is told anew");
        x.scene(4, 1, 9);
        x.call(4, 1);
        x.scene(4, 1, 3);
        Due.is("ofScene(4, 0)", x.ofScene(4, 0), 9);
        Due.is("ofScene(4, 4)", x.ofScene(4, 4), 5);
        Due.is("changed()", x.changed(), 16);
        x = Due.test(2, "what is told is no STEP");
        x.scene(4, 0, 9);
        x.scene(4, 1, 9);
        Due.is("about(3)", x.about(3), 0);
    }

    private static void kindTold() {
        FilmLooksBack x = Due.test(3, "SCENE 0, KIND 3: the least, the greatest");
        Due.is("kind(0, 3)", x.kind(0, 3), true);
        Due.is("ofScene(0, 5)", x.ofScene(0, 5), 3);
        x = Due.test(3, "SCENE 11, KIND 0: told again");
        Due.is("kind(11, 2)", x.kind(11, 2), true);
        Due.is("kind(11, 0)", x.kind(11, 0), true);
        Due.is("ofScene(11, 5)", x.ofScene(11, 5), 0);
        x = Due.test(3, "KIND of that SCENE alone; no STEP");
        x.kind(6, 1);
        Due.is("ofScene(5, 5)", x.ofScene(5, 5), 0);
        Due.is("ofScene(7, 5)", x.ofScene(7, 5), 0);
        Due.is("about(3)", x.about(3), 0);
    }

    private static void personTold() {
        FilmLooksBack x = Due.test(4, "PLAIN 0 .. 9: 0 and 9");
        Due.is("person(0, 1)", x.person(0, 1), 0);
        Due.is("person(9, 1)", x.person(9, 1), 1);
        Due.is("of(0, 0)", x.of(0, 0), 0);
        Due.is("of(1, 0)", x.of(1, 0), 9);
        x = Due.test(4, "row 0 .. 9: 0 and 9");
        Due.is("person(1, 0)", x.person(1, 0), 0);
        Due.is("person(1, 9)", x.person(1, 9), 1);
        Due.is("of(0, 1)", x.of(0, 1), 0);
        Due.is("of(1, 1)", x.of(1, 1), 9);
        x = Due.test(4, "row 0 (not there): a PERSON all the same");
        x.person(3, 0);
        Due.is("about(0)", x.about(0), 1);
        Due.is("gladdest()", x.gladdest(), 0);
        Due.is("roster(1, 0)", x.roster(1, 0), 0);
        x = Due.test(4, "PERSONS 0 .. 7 (told one by one)");
        for (int p = 0; p < 8; p++) {
            Due.is("person(" + p + ", 1)", x.person(p, 1), p);
            Due.is("about(0)", x.about(0), p + 1);
        }
        Due.is("of(7, 0)", x.of(7, 0), 7);
        x = Due.test(4, "the last of 8: nothing else is told by it");
        for (int p = 0; p < 8; p++) {
            x.person(3, 9);
        }
        Due.is("ofScene(0, 0)", x.ofScene(0, 0), 1);
        Due.is("is(2)", x.is(2), 0);
        x = Due.test(19, "SEEN: rows alone, though GLAD is 1 .. 6");
        for (int p = 0; p < 8; p++) {
            x.person(3, 1);
        }
        x.evening(1);
        for (int p = 0; p < 8; p++) {
            x.seat(p, 9);
        }
        Due.is("of(0, 2)", x.of(0, 2), 3);
        Due.is("is(2)", x.is(2), 0);
        Due.is("front()", x.front(), 0);
        x = Due.test(4, "NONE for others: no number is lost by one");
        x.person(10, 0);
        Due.is("person(1, 1)", x.person(1, 1), 0);
        x = Due.test(4, "GLAD at first 0, though another's is more");
        x.person(5, 1);
        x.evening(1);
        x.person(5, 1);
        Due.is("of(0, 2)", x.of(0, 2), 5);
        Due.is("of(1, 2)", x.of(1, 2), 0);
        x = Due.test(4, "a PERSON that is told is no STEP");
        x.person(5, 1);
        Due.is("about(3)", x.about(3), 0);
        for (int row = 0; row < 10; row++) {
            boolean seen = row >= 1 && row <= 6;
            x = Due.test(19, "SEEN: those in rows 1 .. 6: row " + row);
            x.person(7, row);
            Due.is("is(2)", x.is(2), seen ? 1 : 0);
            x = Due.test(45, "PLAIN of those SEEN together: row " + row);
            x.person(4, 1);
            x.person(7, row);
            Due.is("front()", x.front(), seen ? 11 : 4);
        }
    }

    private static void seated() {
        FilmLooksBack x = Due.test(10, "row 0: it is not there any more");
        x.person(4, 3);
        Due.is("seat(0, 0)", x.seat(0, 0), true);
        Due.is("of(0, 1)", x.of(0, 1), 0);
        Due.is("is(2)", x.is(2), 0);
        x = Due.test(10, "row 9, the greatest");
        x.person(4, 3);
        Due.is("seat(0, 9)", x.seat(0, 9), true);
        Due.is("of(0, 1)", x.of(0, 1), 9);
        x = Due.test(10, "PERSON 7, the greatest; no other");
        for (int p = 0; p < 8; p++) {
            x.person(4, 3);
        }
        Due.is("seat(7, 4)", x.seat(7, 4), true);
        Due.is("of(7, 1)", x.of(7, 1), 4);
        Due.is("of(6, 1)", x.of(6, 1), 3);
        x = Due.test(10, "False, if it sits there: where it was told, where it was SEATED");
        x.person(4, 3);
        Due.is("seat(0, 3)", x.seat(0, 3), false);
        x.seat(0, 4);
        Due.is("seat(0, 4)", x.seat(0, 4), false);
        Due.is("seat(0, 3)", x.seat(0, 3), true);
        Due.is("STEPS", x.about(3), 2);
        x = Due.test(10, "False, if it sits there: row 0");
        x.person(4, 0);
        Due.is("seat(0, 0)", x.seat(0, 0), false);
    }

    private static void called() {
        for (int cue = 1; cue <= 3; cue++) {
            FilmLooksBack x = Due.test(11, "a cue 1 .. 3: " + cue);
            x.scene(4, cue, 9);
            Due.is("call(4, " + cue + ")", x.call(4, cue), true);
            Due.is("NEXT by cue 0", x.ofScene(4, 0), 9);
            Due.is("AS TOLD", x.ofScene(4, 4), 5);
            Due.is("STEPS", x.about(3), 1);
        }
        FilmLooksBack x = Due.test(11, "SCENE 0 to SCENE 0, the least");
        x.scene(0, 1, 0);
        Due.is("call(0, 1)", x.call(0, 1), true);
        Due.is("NEXT by cue 0", x.ofScene(0, 0), 0);
        x = Due.test(11, "SCENE 11, from THE END");
        x.scene(11, 3, 0);
        Due.is("call(11, 3)", x.call(11, 3), true);
        Due.is("NEXT by cue 0", x.ofScene(11, 0), 0);
        x = Due.test(11, "to THE END");
        x.scene(0, 1, 12);
        Due.is("call(0, 1)", x.call(0, 1), true);
        Due.is("evening(1)", x.evening(1), 1);
        Due.is("SCENES", x.book(0, 1), 1);
        x = Due.test(11, "by which it is another one: as it is now, not as told");
        x.scene(4, 1, 9);
        x.scene(4, 2, 9);
        Due.is("call(4, 3), NEXT is the same", x.call(4, 3), false);
        Due.is("call(4, 1)", x.call(4, 1), true);
        Due.is("call(4, 2), NEXT is the same", x.call(4, 2), false);
        Due.is("call(4, 3), as told again", x.call(4, 3), true);
        Due.is("changed()", x.changed(), 0);
        Due.is("STEPS", x.about(3), 2);
    }

    private static void mended() {
        FilmLooksBack x = Due.test(12, "SCENE 0, the least: it is AS TOLD again");
        x.scene(0, 1, 7);
        x.call(0, 1);
        Due.is("mend(0)", x.mend(0), true);
        Due.is("ofScene(0, 0)", x.ofScene(0, 0), 1);
        Due.is("STEPS", x.about(3), 2);
        x = Due.test(12, "SCENE 11, the greatest; no other");
        x.scene(11, 1, 7);
        x.scene(10, 1, 7);
        x.call(11, 1);
        x.call(10, 1);
        Due.is("mend(11)", x.mend(11), true);
        Due.is("ofScene(11, 0)", x.ofScene(11, 0), 12);
        Due.is("changed()", x.changed(), 1024);
        x = Due.test(12, "False, if it can't be: a second time");
        x.scene(3, 1, 7);
        x.call(3, 1);
        Due.is("mend(3)", x.mend(3), true);
        Due.is("mend(3)", x.mend(3), false);
        Due.is("STEPS", x.about(3), 2);
        x = Due.test(12, "isn't AS TOLD: as it was told last");
        x.scene(3, 1, 7);
        x.call(3, 1);
        x.scene(3, 0, 7);
        Due.is("mend(3)", x.mend(3), false);
        x = Due.test(12, "MENDED: what an EVENING CHANGED");
        Tape.rule(x, "cues 1;");
        x.scene(0, 1, 12);
        x.evening(1);
        Due.is("mend(0)", x.mend(0), true);
        Due.is("ofScene(0, 0)", x.ofScene(0, 0), 1);
    }

    private static void howManyEvenings() {
        FilmLooksBack x = Due.test(13, "1 .. 40: 1");
        Due.is("evening(1)", x.evening(1), 1);
        Due.is("DAY", x.is(0), 1);
        Due.is("STEPS", x.about(3), 1);
        x = Due.test(13, "1 .. 40: 40");
        Due.is("evening(40)", x.evening(40), 40);
        Due.is("DAY", x.is(0), 40);
        x = Due.test(13, "how many of them ended: none");
        Houses.leadAlways(x, 0, 0);
        Due.is("evening(3)", x.evening(3), 0);
        Due.is("ENDED", x.is(3), 0);
        Due.is("DAY", x.is(0), 3);
        x = Due.test(13, "how many of them ended: on DAY 1 and 3, not on 0, 2 and 4");
        Tape.rule(x, "cues day%2;stays 0;");
        x.scene(0, 0, 0);
        x.scene(0, 1, 12);
        Due.is("evening(5)", x.evening(5), 2);
        Due.is("ENDED", x.is(3), 2);
        Due.is("evening(1)", x.evening(1), 1);
        x = Due.test(13, "DAY 0 .. 9999: up to 9999 just");
        x = Houses.onDay(9959);
        Due.is("evening(40)", x.evening(40), 40);
        Due.is("DAY", x.is(0), 9999);
        Due.is("the latest", x.book(29, 0), 9998);
        x = Due.test(13, "DAY 0 .. 9999: it is DAY that counts, not how many ended");
        Houses.leadAlways(x, 0, 0);
        x.evening(1);
        Houses.leadAlways(x, 0, 1);
        Houses.onDay(x, 9999);
        Due.is("DAY", x.is(0), 9999);
        Due.is("ENDED", x.is(3), 9998);
        Due.is("evening(1)", x.evening(1), NONE);
        Due.is("foretold(1, 1)", x.foretold(1, 1), 0);
        Due.is("played(0)", x.played(0), 0);
        Due.is("years(2, 1)", x.years(2, 1), 9999);
        x = Due.test(13, "at 9999 none can be; but behind undo one can");
        x = Houses.onDay(9999);
        Due.is("evening(1)", x.evening(1), NONE);
        Due.is("undo()", x.undo(), 29);
        Due.is("DAY", x.is(0), 9998);
        Due.is("evening(1)", x.evening(1), 1);
        Due.is("DAY", x.is(0), 9999);
    }

    private static void howManyScenes() {
        FilmLooksBack x = Due.test(13, "from SCENE 0 on");
        Houses.leadAlways(x, 0, 12);
        x.evening(1);
        for (int s = 0; s < 12; s++) {
            Due.is("SHOWN of " + s, x.ofScene(s, 6), s == 0 ? 1 : 0);
        }
        x = Due.test(13, "from SCENE 0 on, wherever the one ahead stopped");
        Houses.leadAlways(x, 0, 5);
        Houses.leadAlways(x, 5, 5);
        x.evening(1);
        Houses.leadAlways(x, 5, 12);
        x.evening(1);
        Due.is("SHOWN of 0", x.ofScene(0, 6), 2);
        Due.is("SHOWN of 5", x.ofScene(5, 6), 30);
        x = Due.test(13, "30 SCENES at most");
        Houses.leadAlways(x, 0, 0);
        Due.is("evening(1)", x.evening(1), 0);
        Due.is("SCENES", x.book(0, 1), 30);
        Due.is("SHOWN", x.ofScene(0, 6), 30);
        int drawn = 199;
        for (int i = 0; i < 30; i++) {
            drawn = Houses.anew(drawn);
        }
        Due.is("X, 30 draws on", x.is(1), drawn);
        for (int longest = 29; longest <= 31; longest++) {
            x = Due.test(13, "30 SCENES at most: THE END behind the " + longest + "th");
            Tape.rule(x, "cues if shown<" + (longest - 1) + " then 0 else 2 end;stays 0;gladdens long;");
            x.scene(0, 0, 0);
            x.scene(0, 2, 12);
            x.person(1, 1);
            Due.is("evening(1)", x.evening(1), longest <= 30 ? 1 : 0);
            Due.is("SCENES", x.book(0, 1), Math.min(30, longest));
            Due.is("whether it ended", x.book(0, 2), longest <= 30 ? 1 : 0);
            Due.is("GLAD", x.of(0, 2), longest <= 30 ? longest : 0);
        }
        x = Due.test(18, "SHOWN once more each time");
        Houses.leadAlways(x, 1, 0);
        x.evening(2);
        Due.is("SHOWN of 0", x.ofScene(0, 6), 30);
        Due.is("SHOWN of 1", x.ofScene(1, 6), 30);
        Due.is("SHOWN of 2", x.ofScene(2, 6), 0);
    }

    private static void draws() {
        for (int draw = 0; draw < 10; draw++) {
            int cue = draw < 4 ? draw : 0;
            FilmLooksBack x = Due.test(13, "without: 0, if draw is 4 or more, else draw: draw " + draw);
            x.person(1, 6);
            for (int c = 0; c < 4; c++) {
                x.scene(0, c, 8 + c);
            }
            Houses.drawing(x, draw);
            x.evening(1);
            Due.is("SCENES by cue " + cue, x.book(0, 1), 5 - cue);
            x = Due.test(13, "without: 0, if nobody is SEEN: draw " + draw);
            x.person(1, 7);
            x.person(1, 0);
            for (int c = 0; c < 4; c++) {
                x.scene(0, c, 8 + c);
            }
            Houses.drawing(x, draw);
            x.evening(1);
            Due.is("SCENES by cue 0", x.book(0, 1), 5);
        }
        FilmLooksBack x = Due.test(13, "a draw by 10: X mod 10 as it is, X becoming anew behind it");
        Tape.rule(x, "cues if draw=9 then 2 else 0 end;");
        x.scene(0, 2, 12);
        x.evening(1);
        Due.is("SCENES", x.book(0, 1), 1);
        Due.is("X", x.is(1), 27334);
        x = Due.test(13, "the second draw is by X anew");
        Tape.rule(x, "cues if scene=1 and draw=4 then 2 else 0 end;");
        x.scene(1, 2, 12);
        x.evening(1);
        Due.is("SCENES", x.book(0, 1), 2);
        x = Due.test(13, "X * 443 + 331 below 30577: it is that");
        Houses.leadAlways(x, 0, 12);
        int small = 0;
        for (int seed = 0; seed < 10000 && small == 0; seed++) {
            int first = seed * 2 + 199;
            if (first % 5 == 2 && Houses.anew(first) < 69) {
                x.years(seed, 1);
                small = x.is(1);
            }
        }
        Due.is("such an X", small > 0 && small < 69, true);
        x.evening(1);
        Due.is("X", x.is(1), small * 443 + 331);
        x = Due.test(13, "an EVENING goes on with X where the one ahead left it");
        Houses.leadAlways(x, 0, 12);
        x.evening(2);
        Due.is("X", x.is(1), Houses.anew(27334));
    }

    private static void changes() {
        FilmLooksBack x = Due.test(13, "goes on to NEXT by that cue as it is: as it was CHANGED ahead in that EVENING");
        Tape.rule(x, "cues if shown=0 then 1 else 0 end;stays 1;");
        x.scene(0, 1, 0);
        Due.is("evening(1)", x.evening(1), 0);
        Due.is("SCENES", x.book(0, 1), 30);
        Due.is("CHANGES", x.book(0, 3), 1);
        String[] sums = {"0", "1", "9", "10", "0-1", "0-10000000"};
        for (int i = 0; i < sums.length; i++) {
            boolean stays = i >= 1 && i <= 3;
            x = Due.test(13, "stays says more than 0: " + sums[i]);
            Tape.rule(x, "cues 2;stays " + sums[i].replace("10000000", "9999*9999") + ";");
            x.scene(0, 2, 12);
            x.evening(1);
            Due.is("CHANGES", x.book(0, 3), stays ? 1 : 0);
            Due.is("changed()", x.changed(), stays ? 1 : 0);
            Due.is("NEXT by cue 0", x.ofScene(0, 0), stays ? 12 : 1);
            Due.is("AS TOLD", x.ofScene(0, 4), 1);
        }
        for (int cue = 0; cue < 4; cue++) {
            x = Due.test(13, "stays without: 1, if cue is 1, else 0: cue " + cue);
            Tape.rule(x, "cues " + cue + ";");
            x.scene(0, 1, 12);
            x.scene(0, 2, 12);
            x.scene(0, 3, 12);
            x.evening(1);
            Due.is("changed()", x.changed(), cue == 1 ? 1 : 0);
        }
        x = Due.test(13, "if the cue isn't 0: by 0 nothing is CHANGED, whatever stays says");
        Tape.rule(x, "cues 0;stays 9;");
        x.scene(0, 1, 12);
        x.evening(1);
        Due.is("CHANGES", x.book(0, 3), 0);
        Due.is("changed()", x.changed(), 0);
        x = Due.test(13, "another one than that: the same is no CHANGE");
        Tape.rule(x, "cues 1;stays 1;");
        x.evening(1);
        Due.is("SCENES", x.book(0, 1), 12);
        Due.is("CHANGES", x.book(0, 3), 0);
        x = Due.test(13, "another one than that: as it is now, though it is what was told");
        x.scene(0, 1, 12);
        x.call(0, 1);
        Tape.rule(x, "cues 2;stays 1;");
        x.evening(1);
        Due.is("CHANGES", x.book(0, 3), 1);
        Due.is("changed()", x.changed(), 0);
        x = Due.test(13, "CHANGES: each of one EVENING, twice the same SCENE");
        Tape.rule(x, "cues if scene=0 then shown+1 else 0 end;stays 1;");
        x.scene(0, 1, 0);
        x.scene(0, 2, 2);
        x.evening(1);
        Due.is("CHANGES", x.book(0, 3), 2);
        Due.is("NEXT by cue 0", x.ofScene(0, 0), 2);
    }

    private static void gladdened() {
        FilmLooksBack x = Due.test(13, "GLAD of each PERSON SEEN: rows 1 and 6, not 0 and 7");
        x.person(3, 0);
        x.person(3, 1);
        x.person(3, 6);
        x.person(3, 7);
        x.evening(1);
        for (int p = 0; p < 4; p++) {
            Due.is("of(" + p + ", 2)", x.of(p, 2), p == 1 || p == 2 ? 3 : 0);
        }
        x = Due.test(13, "Is it THE END: if it doesn't end, nobody is gladdened");
        Houses.leadAlways(x, 0, 0);
        x.person(3, 1);
        x.evening(1);
        Due.is("of(0, 2)", x.of(0, 2), 0);
        int[][] sums = {{98, 0, 98}, {98, 1, 99}, {99, 0, 99}, {99, 1, 99}, {50, 50, 99}, {99, 99, 99}};
        for (int[] sum : sums) {
            x = Due.test(13, "99 at most: " + sum[0] + " and " + sum[1]);
            Tape.rule(x, "gladdens if day=0 then " + sum[0] + " else " + sum[1] + " end;");
            x.person(0, 1);
            x.evening(2);
            Due.is("of(0, 2)", x.of(0, 2), sum[2]);
        }
        x = Due.test(13, "gladdens: 0 at least: GLAD never falls");
        Tape.rule(x, "gladdens if day=0 then 7 else 0-3 end;");
        x.person(0, 1);
        x.evening(2);
        Due.is("of(0, 2)", x.of(0, 2), 7);
        x = Due.test(13, "by number, each by its own who, glad and row");
        Tape.rule(x, "gladdens who*10+row+glad;");
        for (int p = 0; p < 8; p++) {
            x.person(0, p % 6 + 1);
        }
        x.evening(1);
        for (int p = 0; p < 8; p++) {
            Due.is("of(" + p + ", 2)", x.of(p, 2), p * 10 + p % 6 + 1);
        }
        x.evening(1);
        Due.is("of(1, 2)", x.of(1, 2), 36);
        x = Due.test(13, "DAY is one more behind all that: gladdens asks the EVENING's own");
        Tape.rule(x, "gladdens day+1;");
        x.person(0, 1);
        x.evening(3);
        Due.is("of(0, 2)", x.of(0, 2), 6);
    }

    private static void writtenDown() {
        FilmLooksBack x = Due.test(20, "BOOK: DAY of the EVENING itself, 0 at first");
        x.evening(1);
        Due.is("book(0, 0)", x.book(0, 0), 0);
        Due.is("DAY", x.is(0), 1);
        x = Due.test(20, "how many (i NONE), whatever else is asked");
        x.evening(2);
        Due.is("book(NONE, 0)", x.book(NONE, 0), 2);
        Due.is("book(NONE, 3)", x.book(NONE, 3), 2);
        x = Due.test(20, "the latest 30 EVENINGS: 29, 30, 31");
        x.evening(29);
        Due.is("book(NONE, 0)", x.book(NONE, 0), 29);
        Due.is("book(28, 0)", x.book(28, 0), 28);
        Due.is("book(29, 0)", x.book(29, 0), -2);
        x.evening(1);
        Due.is("book(NONE, 0)", x.book(NONE, 0), 30);
        Due.is("book(0, 0)", x.book(0, 0), 0);
        Due.is("book(29, 0)", x.book(29, 0), 29);
        x.evening(1);
        Due.is("book(NONE, 0)", x.book(NONE, 0), 30);
        Due.is("book(0, 0)", x.book(0, 0), 1);
        Due.is("book(29, 0)", x.book(29, 0), 30);
        Due.is("book(30, 0)", x.book(30, 0), -2);
        x = Due.test(20, "from the eldest on: how many SCENES, whether it ended, how many CHANGES of each");
        Tape.rule(x, "cues if day=1 then 1 else 0 end;");
        x.scene(0, 1, 7);
        x.scene(7, 1, 9);
        x.scene(3, 0, 0);
        x.evening(3);
        int[][] due = {{0, 30, 0, 0}, {1, 5, 1, 2}, {2, 5, 1, 0}};
        for (int i = 0; i < 3; i++) {
            for (int what = 0; what < 4; what++) {
                Due.is("book(" + i + ", " + what + ")", x.book(i, what), due[i][what]);
            }
        }
        x = Due.test(46, "BY THE BOOK: of its 30 alone");
        x.evening(2);
        Houses.leadAlways(x, 0, 0);
        x.evening(28);
        Due.is("ledger(true)", x.ledger(true), 2);
        Due.is("ledger(false)", x.ledger(false), 28);
        x.evening(1);
        Due.is("ledger(true)", x.ledger(true), 1);
        Due.is("ledger(false)", x.ledger(false), 29);
        x.evening(1);
        Due.is("ledger(true)", x.ledger(true), 0);
        Due.is("ledger(false)", x.ledger(false), 30);
        Due.is("ENDED, all together", x.is(3), 2);
    }

    /** EVENINGS that are unlike by DAY: cue 1, 2 or 3 leads from SCENE 0 to 4, 7 or (without end) 2. */
    private static FilmLooksBack unlike() {
        FilmLooksBack x = new FilmLooksBack();
        x.scene(0, 1, 4);
        x.scene(0, 2, 7);
        x.scene(0, 3, 2);
        Houses.leadAlways(x, 2, 2);
        Tape.rule(x, "cues if scene=0 then 1+day%7%3 else 0 end;stays day%4/3;");
        return x;
    }

    /** Of the EVENING of that DAY: how many SCENES, whether it ended, how many CHANGES. */
    private static int[] unlikeOn(int day) {
        int[] nexts = {4, 7, 2};
        int lead = 1;
        int[] due = new int[3];
        for (int d = 0; d <= day; d++) {
            int next = nexts[d % 7 % 3];
            due = new int[] {next == 2 ? 30 : 13 - next, next == 2 ? 0 : 1, 0};
            if (d % 4 == 3 && next != lead) {
                lead = next;
                due[2] = 1;
            }
        }
        return due;
    }

    private static void unlikeBook(FilmLooksBack x, int eldest, int latest) {
        Due.is("how many", x.book(NONE, 0), latest - eldest + 1);
        int ended = 0;
        for (int day = eldest; day <= latest; day++) {
            int[] due = unlikeOn(day);
            for (int what = 1; what < 4; what++) {
                Due.is("of DAY " + day + ", " + what, x.book(day - eldest, what), due[what - 1]);
            }
            ended += due[1];
        }
        Due.is("the eldest", x.book(0, 0), eldest);
        Due.is("the latest", x.book(latest - eldest, 0), latest);
        Due.is("ledger(true)", x.ledger(true), ended);
        Due.is("ledger(false)", x.ledger(false), latest - eldest + 1 - ended);
    }

    private static void unlikeEvenings() {
        for (int days : new int[] {1, 29, 30, 31, 59, 60, 61, 90}) {
            Due.test(20, "BOOK (the latest 30 EVENINGS): each as it was, behind " + days);
            FilmLooksBack x = unlike();
            for (int done = 0; done < days; done += 30) {
                x.evening(Math.min(30, days - done));
            }
            unlikeBook(x, Math.max(0, days - 30), days - 1);
        }
        for (int day = 30; day < 33; day++) {
            Due.test(16, "BOOK is as ahead of it: all 30, on DAY " + day);
            FilmLooksBack x = unlike();
            x.evening(day + 2 > 40 ? 40 : day + 2);
            x.undo();
            x.undo();
            unlikeBook(x, day - 30, day - 1);
        }
        for (int changed : new int[] {29, 59}) {
            FilmLooksBack y = Due.test(16, "BOOK is as ahead of it: CHANGES of DAY 29 behind DAY 59, by " + changed);
            Tape.rule(y, "cues if day=" + changed + " then 1 else 0 end;");
            y.scene(0, 1, 12);
            y.evening(40);
            y.evening(15);
            Due.is("foretold(10, 2)", y.foretold(10, 2), changed == 59 ? 1 : 0);
            Due.is("of DAY 29, 30 kept", y.book(4, 3), changed == 29 ? 1 : 0);
            y.evening(5);
            Due.is("of DAY 59", y.book(29, 3), changed == 59 ? 1 : 0);
            y.undo();
            Due.is("of DAY 29", y.book(0, 3), changed == 29 ? 1 : 0);
            Due.is("DAY of it", y.book(0, 0), 29);
        }
        Due.test(21, "FORETOLD: BOOK is as it was, all 30");
        FilmLooksBack x = unlike();
        x.evening(33);
        Due.is("foretold(40, 1)", x.foretold(40, 1), unlikeOn(72)[0]);
        unlikeBook(x, 3, 32);
        Due.test(48, "BOOK is so again, all 30");
        x = unlike();
        x.evening(30);
        x.image();
        x.evening(29);
        x.back();
        unlikeBook(x, 0, 29);
    }

    private static void counters() {
        FilmLooksBack x = Due.test(18, "SHOWN (0 .. 9999): 9990 and 30 are 9999");
        Houses.leadAlways(x, 0, 0);
        for (int i = 0; i < 8; i++) {
            x.evening(40);
        }
        x.evening(13);
        Due.is("SHOWN", x.ofScene(0, 6), 9990);
        x.evening(1);
        Due.is("SHOWN", x.ofScene(0, 6), 9999);
        x.evening(1);
        Due.is("SHOWN", x.ofScene(0, 6), 9999);
        Tape.rule(x, "cues if shown=9999 then 3 else 1 end;");
        Due.is("shown", x.ofScene(0, 7), 3);
        x.undo();
        x.undo();
        Due.is("SHOWN, taken back", x.ofScene(0, 6), 9990);
        x = Due.test(19, "ENDED (0 .. 9999): 9999");
        x = Houses.onDay(9999);
        Due.is("ENDED", x.is(3), 9999);
        Due.is("SHOWN", x.ofScene(11, 6), 9999);
        x.undo();
        Due.is("ENDED", x.is(3), 9998);
        x = Due.test(19, "DAY 0 .. 9999: day says so, too");
        x = Houses.onDay(9999);
        Tape.rule(x, "gladdens day-9990;");
        x.person(0, 1);
        Due.is("of(0, 3)", x.of(0, 3), 9);
    }

    private static void years() {
        FilmLooksBack x = Due.test(15, "SEED 0: X is 199, then anew; 199 mod 5 is 4: an EVENING");
        Houses.leadAlways(x, 0, 12);
        Due.is("years(0, 1)", x.years(0, 1), 1);
        Due.is("X: two draws", x.is(1), Houses.anew(27334));
        x = Due.test(15, "SEED 9999: X is 20197, then anew");
        Due.is("years(9999, 1)", x.years(9999, 1), 0);
        Due.is("X", x.is(1), 19118);
        x = Due.test(15, "X is SEED * 2 + 199, whatever it was");
        x.evening(1);
        x.years(9999, 1);
        Due.is("X", x.is(1), 19118);
        x = Due.test(15, "0: the PERSON x mod how many is SEATED in row x / 5 mod 10: x 205, of 3");
        for (int p = 0; p < 3; p++) {
            x.person(1, 5);
        }
        Due.is("years(3, 1)", x.years(3, 1), 0);
        for (int p = 0; p < 3; p++) {
            Due.is("of(" + p + ", 1)", x.of(p, 1), p == 1 ? 1 : 5);
        }
        x = Due.test(15, "row x / 5 mod 10: 9, of x 245");
        x.person(1, 5);
        x.years(23, 1);
        Due.is("of(0, 1)", x.of(0, 1), 9);
        x = Due.test(15, "row x / 5 mod 10: 0, it is not there any more");
        x.person(1, 5);
        int seed = 0;
        while ((seed * 2 + 199) % 5 != 2 || Houses.anew(seed * 2 + 199) % 50 != 0) {
            seed++;
        }
        x.years(seed, 2);
        Due.is("of(0, 1)", x.of(0, 1), 0);
        x = Due.test(15, "What there are none of isn't: nobody is SEATED");
        Due.is("years(3, 1)", x.years(3, 1), 0);
        Due.is("X", x.is(1), Houses.anew(205));
        Due.is("PERSONS", x.about(0), 0);
        x.person(1, 5);
        Due.is("of(0, 1)", x.of(0, 1), 5);
        int[][] calls = {{1, 201, 9, 1}, {6, 211, 7, 2}, {11, 221, 5, 3}};
        for (int[] call : calls) {
            x = Due.test(15, "1 CALLED in SCENE x mod 12 by cue 1 and x mod 3: x " + call[1]);
            for (int c = 1; c < 4; c++) {
                x.scene(call[2], c, c - 1);
            }
            Due.is("years", x.years(call[0], 1), 0);
            Due.is("NEXT by cue 0", x.ofScene(call[2], 0), call[3] - 1);
            Due.is("changed()", x.changed(), 1 << call[2]);
        }
        x = Due.test(15, "(if it can be): it is no other one, X becomes anew all the same");
        x.years(1, 1);
        Due.is("changed()", x.changed(), 0);
        Due.is("X", x.is(1), Houses.anew(201));
        x = Due.test(15, "2 SCENE x mod 12 is MENDED: x 207, SCENE 3 alone");
        x.scene(3, 1, 0);
        x.scene(4, 1, 0);
        x.call(3, 1);
        x.call(4, 1);
        Due.is("years(4, 1)", x.years(4, 1), 0);
        Due.is("changed()", x.changed(), 16);
        Due.is("ofScene(3, 0)", x.ofScene(3, 0), 4);
        x = Due.test(15, "3 an EVENING: x 203");
        Due.is("years(2, 1)", x.years(2, 1), 1);
        Due.is("ENDED", x.is(3), 1);
        Due.is("BOOK", x.book(NONE, 0), 1);
    }

    private static void yearsAsSteps() {
        FilmLooksBack x = Due.test(15, "an EVENING (if it can be): at DAY 9999 X becomes anew alone, 40 times");
        x = Houses.onDay(9999);
        int drawn = 199;
        for (int i = 0; i < 40; i++) {
            drawn = Houses.anew(drawn);
        }
        Due.is("years(0, 40)", x.years(0, 40), 9999);
        Due.is("X", x.is(1), drawn);
        Due.is("ENDED", x.is(3), 9999);
        Due.is("the latest", x.book(29, 0), 9998);
        x = Due.test(15, "an EVENING (if it can be): up to DAY 9999");
        x = Houses.onDay(9998);
        Due.is("years(0, 40)", x.years(0, 40), 9999);
        x = Due.test(15, "n times (1 .. 40): 40 are one STEP, taken back at once");
        x.person(3, 3);
        x.seat(0, 4);
        Due.is("more than one EVENING", x.years(0, 40) > 1, true);
        Due.is("STEPS", x.about(3), 2);
        Due.is("undo()", x.undo(), 1);
        Due.is("DAY", x.is(0), 0);
        Due.is("X", x.is(1), 199);
        Due.is("row", x.of(0, 1), 4);
        Due.is("GLAD", x.of(0, 2), 0);
        Due.is("ENDED", x.is(3), 0);
        Due.is("BOOK", x.book(NONE, 0), 0);
        x = Due.test(15, "It is one STEP, if nothing could be done, too");
        x.years(1, 1);
        Due.is("STEPS", x.about(3), 1);
        Due.is("undo()", x.undo(), 0);
        Due.is("X", x.is(1), 199);
        x = Due.test(15, "the answer is DAY: as it was, if there was no EVENING");
        x.evening(7);
        Due.is("years(1, 1)", x.years(1, 1), 7);
        x = Due.test(15, "the answer is DAY, not how many ended");
        Houses.leadAlways(x, 0, 0);
        x.evening(2);
        Due.is("years(2, 1)", x.years(2, 1), 3);
        Due.is("ENDED", x.is(3), 0);
        x = Due.test(15, "n times: x is X as the EVENING ahead left it");
        Houses.leadAlways(x, 0, 12);
        int at = 199;
        int day = 0;
        for (int i = 0; i < 3; i++) {
            boolean evening = at % 5 > 2;
            at = Houses.anew(evening ? Houses.anew(at) : at);
            day += evening ? 1 : 0;
        }
        Due.is("years(0, 3)", x.years(0, 3), day);
        Due.is("X", x.is(1), at);
    }

    private static void stepsEach() {
        FilmLooksBack x = Due.test(16, "STEPS: SEATED is taken back");
        x.person(1, 2);
        x.seat(0, 3);
        Due.is("undo()", x.undo(), 0);
        Due.is("row", x.of(0, 1), 2);
        x = Due.test(16, "STEPS: CALLED is taken back");
        x.scene(4, 1, 9);
        x.call(4, 1);
        Due.is("undo()", x.undo(), 0);
        Due.is("NEXT by cue 0", x.ofScene(4, 0), 5);
        x = Due.test(16, "STEPS: MENDED is taken back: it is CHANGED again");
        x.scene(4, 1, 9);
        x.call(4, 1);
        x.mend(4);
        Due.is("undo()", x.undo(), 1);
        Due.is("NEXT by cue 0", x.ofScene(4, 0), 9);
        Due.is("changed()", x.changed(), 16);
        x = Due.test(16, "STEPS: an EVENING (each)");
        x.evening(3);
        Due.is("undo()", x.undo(), 2);
        Due.is("DAY", x.is(0), 2);
        Due.is("undo()", x.undo(), 1);
        Due.is("DAY", x.is(0), 1);
        x = Due.test(16, "rows, GLAD, NEXT by cue 0, SHOWN, ENDED, DAY, X, BOOK are as ahead of it");
        Tape.rule(x, "cues 1;gladdens 5;");
        x.person(1, 1);
        x.scene(0, 1, 12);
        x.evening(1);
        Due.is("undo()", x.undo(), 0);
        Due.is("GLAD", x.of(0, 2), 0);
        Due.is("NEXT by cue 0", x.ofScene(0, 0), 1);
        Due.is("SHOWN", x.ofScene(0, 6), 0);
        Due.is("ENDED", x.is(3), 0);
        Due.is("DAY", x.is(0), 0);
        Due.is("X", x.is(1), 199);
        Due.is("BOOK", x.book(NONE, 0), 0);
        Due.is("ledger(true)", x.ledger(true), 0);
        x = Due.test(16, "BOOK as ahead of it: the eldest of 30 is there again");
        Houses.leadAlways(x, 0, 12);
        x.evening(1);
        Houses.leadAlways(x, 0, 0);
        x.evening(29);
        Houses.leadAlways(x, 0, 6);
        x.evening(1);
        Due.is("the eldest", x.book(0, 1), 30);
        x.undo();
        Due.is("book(NONE, 0)", x.book(NONE, 0), 30);
        Due.is("the eldest: DAY", x.book(0, 0), 0);
        Due.is("the eldest: SCENES", x.book(0, 1), 1);
        Due.is("the eldest: it ended", x.book(0, 2), 1);
        Due.is("the latest: SCENES", x.book(29, 1), 30);
    }

    private static void stepsInAll() {
        FilmLooksBack x = Due.test(16, "the latest first");
        x.person(1, 2);
        x.seat(0, 3);
        x.evening(1);
        x.seat(0, 4);
        x.undo();
        Due.is("row", x.of(0, 1), 3);
        Due.is("DAY", x.is(0), 1);
        x.undo();
        Due.is("DAY", x.is(0), 0);
        Due.is("row", x.of(0, 1), 3);
        x.undo();
        Due.is("row", x.of(0, 1), 2);
        for (int steps = 29; steps <= 31; steps++) {
            x = Due.test(16, "the latest 30 can be taken back: of " + steps);
            x.person(1, 0);
            for (int i = 0; i < steps; i++) {
                x.seat(0, 1 + i % 2);
            }
            Due.is("about(3)", x.about(3), Math.min(30, steps));
            for (int i = Math.min(30, steps) - 1; i >= 0; i--) {
                Due.is("undo()", x.undo(), i);
            }
            Due.is("row", x.of(0, 1), steps > 30 ? 1 : 0);
            Due.is("undo()", x.undo(), NONE);
            Due.is("row", x.of(0, 1), steps > 30 ? 1 : 0);
        }
        x = Due.test(16, "the latest 30: of 40 EVENINGS at once");
        x.evening(40);
        for (int i = 29; i >= 0; i--) {
            Due.is("undo()", x.undo(), i);
        }
        Due.is("DAY", x.is(0), 10);
        Due.is("undo()", x.undo(), NONE);
        x = Due.test(16, "taken back and done anew, 30 at most again");
        x.person(1, 0);
        for (int i = 0; i < 45; i++) {
            x.seat(0, 1 + i % 9);
        }
        x.undo();
        x.undo();
        Due.is("row", x.of(0, 1), 1 + 42 % 9);
        for (int i = 0; i < 5; i++) {
            x.seat(0, 9 - i);
        }
        Due.is("about(3)", x.about(3), 30);
        for (int i = 0; i < 5; i++) {
            x.undo();
        }
        Due.is("row", x.of(0, 1), 1 + 42 % 9);
        Due.is("about(3)", x.about(3), 25);
        x = Due.test(16, "the latest 30: behind 75, each as ahead of it");
        x.person(1, 0);
        for (int i = 1; i <= 75; i++) {
            x.seat(0, i % 10);
        }
        for (int i = 74; i >= 45; i--) {
            Due.is("undo()", x.undo(), i - 45);
            Due.is("row", x.of(0, 1), i % 10);
        }
        Due.is("undo()", x.undo(), NONE);
        x = Due.test(16, "what can't be is no STEP");
        x.person(1, 0);
        x.seat(0, 0);
        x.call(0, 1);
        x.mend(0);
        x.evening(0);
        x.years(0, 0);
        x.undo();
        Due.is("about(3)", x.about(3), 0);
    }

    private static void toldSince() {
        FilmLooksBack x = Due.test(16, "what was told since is as told: NEXT by cue 0 as well");
        x.scene(4, 1, 9);
        x.call(4, 1);
        x.scene(4, 0, 7);
        x.undo();
        Due.is("NEXT by cue 0", x.ofScene(4, 0), 7);
        Due.is("changed()", x.changed(), 0);
        x = Due.test(16, "what was told since: by all STEPS taken back, between them CHANGED");
        x.scene(4, 1, 9);
        x.call(4, 1);
        x.scene(4, 0, 7);
        x.call(4, 1);
        x.undo();
        Due.is("NEXT by cue 0", x.ofScene(4, 0), 7);
        x.undo();
        Due.is("NEXT by cue 0", x.ofScene(4, 0), 7);
        x = Due.test(16, "what was told ahead of it stays so");
        x.scene(4, 0, 7);
        x.scene(4, 1, 9);
        x.call(4, 1);
        x.undo();
        Due.is("NEXT by cue 0", x.ofScene(4, 0), 7);
        Due.is("NEXT by cue 1", x.ofScene(4, 1), 9);
        x = Due.test(16, "told since of one SCENE: another is as ahead of it");
        x.scene(4, 1, 9);
        x.scene(5, 1, 9);
        x.call(4, 1);
        x.call(5, 1);
        x.scene(4, 0, 7);
        x.undo();
        Due.is("NEXT by cue 0", x.ofScene(4, 0), 7);
        Due.is("NEXT by cue 0", x.ofScene(5, 0), 6);
        x.undo();
        Due.is("NEXT by cue 0", x.ofScene(4, 0), 7);
        Due.is("NEXT by cue 0", x.ofScene(5, 0), 6);
        x = Due.test(16, "what was told since: behind 30 STEPS, by each of them taken back");
        x.scene(11, 1, 3);
        x.person(1, 0);
        for (int i = 0; i < 50; i++) {
            x.seat(0, 1 + i % 2);
        }
        x.scene(11, 0, 7);
        x.person(1, 5);
        x.call(11, 1);
        for (int i = 29; i >= 0; i--) {
            Due.is("undo()", x.undo(), i);
            Due.is("NEXT by cue 0", x.ofScene(11, 0), 7);
            Due.is("row of the one told since", x.of(1, 1), 5);
        }
        x = Due.test(16, "told since: NEXT by cue 1 .. 3, KIND");
        x.evening(1);
        x.scene(4, 3, 9);
        x.kind(4, 2);
        x.undo();
        Due.is("ofScene(4, 3)", x.ofScene(4, 3), 9);
        Due.is("ofScene(4, 5)", x.ofScene(4, 5), 2);
        x = Due.test(16, "told since: a PERSON, its row, GLAD 0");
        x.evening(1);
        x.person(6, 4);
        x.seat(0, 5);
        x.evening(1);
        x.undo();
        Due.is("GLAD", x.of(0, 2), 0);
        x.undo();
        x.undo();
        Due.is("about(0)", x.about(0), 1);
        Due.is("PLAIN", x.of(0, 0), 6);
        Due.is("row", x.of(0, 1), 4);
        x = Due.test(16, "told since: THE TEXT, THE ROW, ODDS, LIKES, FELT, and what the SEVENTH ROW knows");
        x.person(1, 1);
        x.evening(1);
        Tape.rule(x, "cues 0;");
        x.cue(3);
        x.weigh(0, 0, 0, 10);
        x.likes(0, 2, 9);
        x.felt(0, 1);
        x.look(0);
        x.undo();
        Due.is("THE TEXT", x.about(2), 0);
        Due.is("THE ROW", x.about(4), 1);
        Due.is("ODDS", x.odds(11, 1, true), 1);
        Due.is("LIKES", x.roster(1, NONE), 9);
        Due.is("FELT", x.about(5), 1);
        x.kind(0, 1);
        Due.is("SEVENTH ROW: not SCENE 0", x.look(1), 0);
        x = Due.test(16, "an IMAGE is not taken back, nor is BACK");
        x.evening(1);
        x.image();
        x.undo();
        Due.is("back()", x.back(), 1);
        Due.is("about(3)", x.about(3), 1);
    }

    private static void looks() {
        FilmLooksBack x = Due.test(17, "0 PLAIN, 1 its row, 2 GLAD, 3 gladdens now");
        Tape.rule(x, "gladdens row*10+long;");
        x.person(5, 3);
        x.evening(1);
        int[] due = {5, 3, 42, 31};
        for (int what = 0; what < 4; what++) {
            Due.is("of(0, " + what + ")", x.of(0, what), due[what]);
        }
        x = Due.test(17, "gladdens now: 0 at least, 99 at most");
        x.person(5, 3);
        Tape.rule(x, "gladdens 0-1;");
        Due.is("of(0, 3)", x.of(0, 3), 0);
        Tape.rule(x, "gladdens 100;");
        Due.is("of(0, 3)", x.of(0, 3), 99);
        x = Due.test(17, "gladdens now, as by whoever isn't SEEN, too");
        x.person(5, 0);
        Due.is("of(0, 3)", x.of(0, 3), 5);
        x = Due.test(18, "7 the cue as law says now by a draw of 0");
        x.person(5, 3);
        Due.is("without", x.ofScene(0, 7), 0);
        Tape.rule(x, "cues draw+2;");
        Due.is("ofScene(11, 7)", x.ofScene(11, 7), 2);
        Tape.rule(x, "cues 4;");
        Due.is("3 at most", x.ofScene(0, 7), 3);
        Tape.rule(x, "cues -1;");
        Due.is("0 at least", x.ofScene(0, 7), 0);
        x = Due.test(18, "7: shown is how often it was SHOWN till now");
        Tape.rule(x, "cues shown;");
        Due.is("ofScene(0, 7)", x.ofScene(0, 7), 0);
        x.evening(1);
        Due.is("ofScene(0, 7)", x.ofScene(0, 7), 1);
        x = Due.test(18, "7 as law says now: who is SEEN now, DAY now");
        Tape.rule(x, "cues seen+day;");
        Due.is("ofScene(0, 7)", x.ofScene(0, 7), 0);
        x.person(1, 1);
        Due.is("ofScene(0, 7)", x.ofScene(0, 7), 1);
        x.seat(0, 9);
        Due.is("ofScene(0, 7)", x.ofScene(0, 7), 0);
        x.evening(2);
        Due.is("ofScene(0, 7)", x.ofScene(0, 7), 2);
        x.undo();
        Due.is("ofScene(0, 7)", x.ofScene(0, 7), 1);
        x = Due.test(17, "3 gladdens now: PLAIN together now, DAY now");
        Tape.rule(x, "gladdens plain*10+day;");
        x.person(4, 9);
        Due.is("of(0, 3)", x.of(0, 3), 0);
        x.seat(0, 1);
        Due.is("of(0, 3)", x.of(0, 3), 40);
        x.evening(1);
        Due.is("of(0, 3)", x.of(0, 3), 41);
        x.undo();
        Due.is("of(0, 3)", x.of(0, 3), 40);
        x = Due.test(18, "4 NEXT by cue 0 as told, 0 as it is now");
        x.scene(11, 1, 0);
        x.call(11, 1);
        Due.is("ofScene(11, 0)", x.ofScene(11, 0), 0);
        Due.is("ofScene(11, 4)", x.ofScene(11, 4), 12);
        x = Due.test(19, "2 SEEN (bits): PERSON 7 the highest");
        for (int p = 0; p < 8; p++) {
            x.person(1, p == 7 || p == 0 ? 1 : 9);
        }
        Due.is("is(2)", x.is(2), 129);
    }

    private static void found() {
        FilmLooksBack x = Due.test(42, "GLADDEST: none is told");
        Due.is("gladdest()", x.gladdest(), NONE);
        x = Due.test(42, "GLADDEST: of like ones the lowest, all 0");
        x.person(1, 1);
        x.person(9, 1);
        Due.is("gladdest()", x.gladdest(), 0);
        x = Due.test(42, "GLADDEST: the last of 8; seen no more");
        for (int p = 0; p < 8; p++) {
            x.person(p == 7 ? 3 : 2, 1);
        }
        x.evening(1);
        Due.is("gladdest()", x.gladdest(), 7);
        x.seat(7, 0);
        Due.is("gladdest()", x.gladdest(), 7);
        x.evening(1);
        Due.is("gladdest()", x.gladdest(), 0);
        int[][] plains = {{5, 3, 4}, {3, 5, 4}, {3, 4, 5}, {3, 5, 5}, {5, 5, 3}};
        int[] due = {0, 1, 2, 1, 0};
        for (int i = 0; i < plains.length; i++) {
            x = Due.test(42, "GLADDEST: of " + plains[i][0] + ", " + plains[i][1] + ", " + plains[i][2]);
            for (int plain : plains[i]) {
                x.person(plain, 1);
            }
            x.evening(1);
            Due.is("gladdest()", x.gladdest(), due[i]);
        }
        x = Due.test(43, "OFTEN: none was SHOWN: of like ones the lowest");
        Due.is("often()", x.often(), 0);
        x = Due.test(43, "OFTEN: SCENE 11; of like ones the lowest");
        Houses.leadAlways(x, 11, 11);
        x.evening(1);
        Due.is("often()", x.often(), 11);
        x = Due.test(43, "OFTEN: SCENE 1 of 2, 30, 28; SCENE 2 of 3, 31, 57");
        Houses.leadAlways(x, 1, 1);
        x.evening(1);
        Houses.leadAlways(x, 1, 2);
        Houses.leadAlways(x, 2, 2);
        x.evening(1);
        Due.is("often()", x.often(), 1);
        x.evening(1);
        Due.is("often()", x.often(), 2);
        x = Due.test(43, "OFTEN: both at 9999: the lowest");
        Houses.leadAlways(x, 1, 1);
        for (int i = 0; i < 9; i++) {
            x.evening(40);
        }
        Due.is("often()", x.often(), 1);
        Houses.leadAlways(x, 0, 0);
        for (int i = 0; i < 9; i++) {
            x.evening(40);
        }
        Due.is("often()", x.often(), 0);
        x = Due.test(44, "CHANGED (bits): none, SCENE 0, SCENE 11");
        Due.is("changed()", x.changed(), 0);
        x.scene(0, 1, 12);
        x.scene(11, 1, 0);
        x.call(0, 1);
        Due.is("changed()", x.changed(), 1);
        x.call(11, 1);
        Due.is("changed()", x.changed(), 2049);
        x = Due.test(44, "CHANGED (bits): all 12; none again");
        for (int s = 0; s < 12; s++) {
            x.scene(s, 1, s);
            x.call(s, 1);
        }
        Due.is("changed()", x.changed(), 4095);
        for (int s = 0; s < 12; s++) {
            x.mend(s);
        }
        Due.is("changed()", x.changed(), 0);
        x = Due.test(44, "CHANGED: NEXT by cue 0 alone, not what is told of another cue");
        x.scene(3, 1, 9);
        x.scene(3, 0, 8);
        Due.is("changed()", x.changed(), 0);
        x = Due.test(46, "BY THE BOOK: an empty one; all ended; none ended");
        Due.is("ledger(true)", x.ledger(true), 0);
        Due.is("ledger(false)", x.ledger(false), 0);
        x.evening(40);
        Due.is("ledger(true)", x.ledger(true), 30);
        Due.is("ledger(false)", x.ledger(false), 0);
        Houses.leadAlways(x, 0, 0);
        x.evening(40);
        Due.is("ledger(true)", x.ledger(true), 0);
        Due.is("ledger(false)", x.ledger(false), 30);
        x = Due.test(46, "BY THE BOOK: whatever was CHANGED, all of 30 and of 29 ended");
        Tape.rule(x, "cues if scene=0 then 1+day%2 else 0 end;stays 1;");
        x.scene(0, 1, 5);
        x.scene(0, 2, 6);
        x.evening(29);
        Due.is("ledger(true)", x.ledger(true), 29);
        Due.is("ledger(false)", x.ledger(false), 0);
        x.evening(1);
        Due.is("CHANGES", x.book(0, 3), 1);
        Due.is("ledger(true)", x.ledger(true), 30);
        Due.is("ledger(false)", x.ledger(false), 0);
        x = Due.test(45, "PLAIN of those SEEN together: 8 of 9");
        for (int p = 0; p < 8; p++) {
            x.person(9, 1 + p % 6);
        }
        Due.is("front()", x.front(), 72);
    }

    private static void images() {
        FilmLooksBack x = Due.test(47, "THE IMAGE is as all is now: all is so again, whatever was done");
        x = Houses.furnished();
        x.image();
        x.person(1, 1);
        x.scene(0, 0, 9);
        x.scene(3, 2, 9);
        x.kind(9, 3);
        x.evening(35);
        x.undo();
        x.seat(0, 9);
        x.cue(NONE);
        x.cue(2);
        x.weigh(0, 10, 0, 0);
        x.look(NONE);
        x.likes(0, 0, 99);
        x.felt(0, 99);
        x.by(1);
        x.years(77, 40);
        x.back();
        FilmLooksBack twin = Houses.furnished();
        twin.image();
        same("as ahead", x, twin);
        fullImage();
        x = Due.test(48, "BACK to THE IMAGE (it stays): twice");
        x.evening(2);
        Due.is("image()", x.image(), 2);
        x.evening(1);
        Due.is("back()", x.back(), 2);
        x.evening(5);
        Due.is("back()", x.back(), 2);
        Due.is("DAY", x.is(0), 2);
        x = Due.test(47, "THE IMAGE: the latest");
        x.evening(2);
        x.image();
        x.evening(1);
        Due.is("image()", x.image(), 3);
        x.evening(1);
        Due.is("back()", x.back(), 3);
        x = Due.test(47, "the answer is DAY, not how many ended; of BACK, too");
        Houses.leadAlways(x, 0, 0);
        x.evening(3);
        Due.is("image()", x.image(), 3);
        Due.is("back()", x.back(), 3);
        x = Due.test(48, "but the tape: it is as it was");
        x.image();
        Tape.put(x, "mend 0;");
        x.back();
        Due.is("about(6)", x.about(6), 7);
        Due.is("text()", x.text(), 0);
        x = Due.test(48, "but the tape: what was on it ahead doesn't come again");
        Tape.put(x, "mend 0;");
        x.image();
        x.end(0);
        x.back();
        Due.is("about(6)", x.about(6), 0);
        x = Due.test(48, "but the latest FAULT: without");
        x.image();
        Tape.read(x, "");
        x.back();
        Due.is("fault(0)", x.fault(0), 0);
        x = Due.test(48, "but the latest FAULT: with one");
        x.image();
        Tape.read(x, "mend 12;");
        x.back();
        Due.is("fault(0)", x.fault(0), 2);
        Due.is("fault(1)", x.fault(1), 5);
        imagesOfTexts();
        imagesOfSteps();
    }

    private static void fullImage() {
        Due.test(47, "THE IMAGE of a full house: all is so again");
        FilmLooksBack x = Houses.full();
        x.image();
        for (int c = 0; c < 4; c++) {
            x.scene(0, c, 11);
            x.scene(11, c, 3);
        }
        x.kind(0, 1);
        x.kind(11, 3);
        x.evening(31);
        x.seat(7, 0);
        x.cue(NONE);
        x.felt(NONE, 0);
        for (int i = 0; i < 12; i++) {
            x.cue(1);
        }
        for (int p = 0; p < 8; p++) {
            x.felt(0, 0);
            x.likes(p, 4, 0);
        }
        x.weigh(0, 0, 10, 0);
        x.look(1);
        x.by(3);
        x.back();
        Due.is("the last cue of THE ROW", x.run(9, 12), 9);
        FilmLooksBack twin = Houses.full();
        twin.image();
        same("as ahead", x, twin);
        Due.test(48, "STEPS of THE IMAGE: all 30, each as ahead of it");
        x = Houses.full();
        x.image();
        x.evening(31);
        x.back();
        twin = Houses.full();
        for (int i = 29; i >= 0; i--) {
            Due.is("undo()", x.undo(), i);
            Due.is("undo()", twin.undo(), i);
            Due.is("X", x.is(1), twin.is(1));
            Due.is("DAY", x.is(0), 10 + i);
            Due.is("NEXT by cue 0", x.ofScene(0, 0), 6 - i % 2);
        }
        Due.is("BOOK", x.book(NONE, 0), 10);
        x = Due.test(48, "FELT: whose it was, of all 8");
        x.person(5, 1);
        x.person(7, 1);
        Tape.read(x, "");
        for (int i = 0; i < 7; i++) {
            x.felt(0, 5);
        }
        x.felt(1, 7);
        x.image();
        x.felt(NONE, 0);
        for (int i = 0; i < 8; i++) {
            x.felt(i == 7 ? 0 : 1, 9);
        }
        Due.is("whose()", x.whose(), 0);
        x.back();
        Due.is("about(5)", x.about(5), 8);
        Due.is("whose()", x.whose(), 1);
        x = Due.test(48, "STEPS of THE IMAGE: BOOK as ahead of the latest");
        Tape.rule(x, "cues if scene=0 then 1+day%2 else 0 end;stays 1;");
        x.scene(0, 1, 5);
        x.scene(0, 2, 6);
        x.evening(30);
        x.image();
        x.by(NONE);
        x.evening(31);
        x.back();
        x.undo();
        for (int i = 0; i < 29; i++) {
            Due.is("book(" + i + ", 3)", x.book(i, 3), 1);
        }
    }

    private static void imagesOfTexts() {
        FilmLooksBack x = Due.test(48, "TEXTS: one read since is none any more");
        Tape.rule(x, "gladdens 1;");
        x.person(0, 1);
        x.image();
        Tape.rule(x, "gladdens 2;");
        Due.is("of(0, 3)", x.of(0, 3), 2);
        x.back();
        Due.is("about(1)", x.about(1), 1);
        Due.is("about(2)", x.about(2), 0);
        Due.is("of(0, 3)", x.of(0, 3), 1);
        Due.is("by(1)", x.by(1), false);
        Due.is("played(1)", x.played(1), -2);
        Due.is("the next is 1", Tape.read(x, "gladdens 3;"), 1);
        x.by(1);
        Due.is("of(0, 3)", x.of(0, 3), 3);
        x = Due.test(48, "TEXTS: all four are there again");
        x.person(0, 1);
        for (int t = 0; t < 4; t++) {
            Tape.read(x, "gladdens 1" + t + ";");
        }
        x.by(3);
        x.image();
        x.by(NONE);
        x.back();
        Due.is("about(2)", x.about(2), 3);
        for (int t = 0; t < 4; t++) {
            x.by(t);
            Due.is("of(0, 3)", x.of(0, 3), 10 + t);
        }
        x = Due.test(48, "TEXTS: none in THE IMAGE, four behind it, four anew");
        x.person(0, 1);
        x.image();
        for (int t = 0; t < 4; t++) {
            Tape.read(x, "gladdens 1" + t + ";");
        }
        x.back();
        Due.is("about(1)", x.about(1), 0);
        for (int t = 0; t < 4; t++) {
            Due.is("text()", Tape.read(x, "gladdens 2" + t + ";"), t);
        }
        x.by(3);
        Due.is("of(0, 3)", x.of(0, 3), 23);
    }

    private static void imagesOfSteps() {
        FilmLooksBack x = Due.test(48, "STEPS: those of THE IMAGE can be taken back, those since can't");
        x.person(1, 1);
        x.seat(0, 2);
        x.seat(0, 3);
        x.image();
        x.seat(0, 4);
        x.undo();
        x.undo();
        x.undo();
        x.seat(0, 9);
        x.back();
        Due.is("about(3)", x.about(3), 2);
        Due.is("undo()", x.undo(), 1);
        Due.is("row", x.of(0, 1), 2);
        Due.is("undo()", x.undo(), 0);
        Due.is("row", x.of(0, 1), 1);
        Due.is("undo()", x.undo(), NONE);
        x = Due.test(48, "STEPS of THE IMAGE: what was told behind it isn't told there");
        x.person(1, 1);
        x.scene(4, 1, 9);
        x.call(4, 1);
        x.image();
        x.scene(4, 0, 7);
        x.person(1, 1);
        x.back();
        x.undo();
        Due.is("NEXT by cue 0", x.ofScene(4, 0), 5);
        Due.is("PERSONS", x.about(0), 1);
        x = Due.test(48, "BACK and an IMAGE are no STEPS");
        x.image();
        x.back();
        Due.is("about(3)", x.about(3), 0);
        x = Due.test(48, "BACK from the last DAY");
        x = Houses.onDay(9998);
        x.image();
        x.evening(1);
        Due.is("back()", x.back(), 9998);
        Due.is("evening(1)", x.evening(1), 1);
    }

    private static void about() {
        FilmLooksBack x = Due.test(49, "all at their greatest");
        x = Houses.full();
        int[] due = {8, 4, 0, 30, 12, 8, 300};
        for (int what = 0; what < 7; what++) {
            Due.is("about(" + what + ")", x.about(what), due[what]);
        }
        x.by(3);
        Due.is("about(2)", x.about(2), 3);
        x = Due.test(49, "all as they are");
        x = Houses.furnished();
        int[] then = {3, 2, 0, x.about(3), 2, 1, 20};
        for (int what = 0; what < 7; what++) {
            Due.is("about(" + what + ")", x.about(what), then[what]);
        }
    }
}
