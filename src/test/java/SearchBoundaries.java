/**
 * For each sentence of III and IV, and of the promises beside them, that names a boundary case, a test of its own.
 * What is refused is in Refused.
 */
public final class SearchBoundaries {
    private static final int NONE = FilmLooksBack.NONE;
    private static final int ALL = 4095;

    public static void main(String[] args) {
        foretold();
        row();
        runs();
        shortestWays();
        likeWays();
        plays();
        playCues();
        odds();
        weights();
        ways();
        sorts();
        parted();
        rounds();
        deadAndFar();
        watched();
        sureOnes();
        telling();
        likes();
        rosters();
        rostersOfLikeOnes();
        felt();
        whoseLaw();
        Due.end();
    }

    private static void eachToItself(FilmLooksBack x) {
        for (int s = 0; s < 12; s++) {
            Houses.leadAlways(x, s, s);
        }
    }

    private static void foretold() {
        FilmLooksBack x = Due.test(21, "n EVENINGS (1 .. 40): 1 and 40; how many end");
        Due.is("foretold(1, 0)", x.foretold(1, 0), 1);
        Due.is("foretold(40, 0)", x.foretold(40, 0), 40);
        x = Due.test(21, "how many end: none; SCENES of the latest: 30");
        Houses.leadAlways(x, 0, 0);
        Due.is("foretold(40, 0)", x.foretold(40, 0), 0);
        Due.is("foretold(40, 1)", x.foretold(40, 1), 30);
        x = Due.test(21, "SCENES of the latest, how many end: by DAY");
        Tape.rule(x, "cues day%2;stays 0;");
        x.scene(0, 0, 0);
        x.scene(0, 1, 7);
        for (int n = 1; n <= 4; n++) {
            Due.is("foretold(" + n + ", 0)", x.foretold(n, 0), n / 2);
            Due.is("foretold(" + n + ", 1)", x.foretold(n, 1), n % 2 == 0 ? 6 : 30);
        }
        x = Due.test(21, "CHANGES in all: one in each of 40; none");
        Tape.rule(x, "cues 1+day%2;stays 1;");
        Due.is("foretold(40, 2)", x.foretold(40, 2), 0);
        x.scene(0, 1, 5);
        x.scene(0, 2, 6);
        Due.is("foretold(1, 2)", x.foretold(1, 2), 1);
        Due.is("foretold(40, 2)", x.foretold(40, 2), 40);
        x = Due.test(21, "those that can be: 9 of 40, 9 of 9");
        x = Houses.onDay(9990);
        Due.is("foretold(40, 0)", x.foretold(40, 0), 9);
        Due.is("foretold(9, 0)", x.foretold(9, 0), 9);
        Due.is("foretold(8, 0)", x.foretold(8, 0), 8);
        Due.is("foretold(40, 1)", x.foretold(40, 1), 12);
        x = Due.test(21, "0: there is none, though there was one");
        x = Houses.onDay(9999);
        Due.is("foretold(1, 0)", x.foretold(1, 0), 0);
        Due.is("foretold(1, 1)", x.foretold(1, 1), 0);
        Due.is("foretold(1, 2)", x.foretold(1, 2), 0);
        x = Due.test(21, "0: there is none, behind one that was foretold");
        x = Houses.onDay(9998);
        Due.is("foretold(2, 1)", x.foretold(2, 1), 12);
        x.evening(1);
        Due.is("foretold(2, 1)", x.foretold(2, 1), 0);
        Due.is("foretold(2, 2)", x.foretold(2, 2), 0);
    }

    private static void row() {
        FilmLooksBack x = Due.test(22, "up to 12 cues: how many it has; the 13th");
        for (int i = 1; i <= 12; i++) {
            Due.is("cue", x.cue(i % 4), i);
        }
        Due.is("the 13th", x.cue(0), -2);
        Due.is("about(4)", x.about(4), 12);
        Due.is("empty then: cue(NONE)", x.cue(NONE), 0);
        Due.is("about(4)", x.about(4), 0);
        Due.is("anew", x.cue(3), 1);
        x = Due.test(22, "it is empty then: it was so");
        Due.is("cue(NONE)", x.cue(NONE), 0);
        x = Due.test(22, "cues 0 .. 3: 0 and 3");
        x.scene(0, 3, 9);
        Due.is("cue(3)", x.cue(3), 1);
        Due.is("cue(0)", x.cue(0), 2);
        Due.is("run(0, 2)", x.run(0, 2), 10);
    }

    private static void runs() {
        FilmLooksBack x = Due.test(23, "behind the first i cues: 0, the SCENE itself");
        Due.is("run(0, 0)", x.run(0, 0), 0);
        Due.is("run(11, 0)", x.run(11, 0), 11);
        Due.is("run(12, 0)", x.run(12, 0), 12);
        x = Due.test(23, "behind the first i cues: each up to 12");
        x.scene(2, 3, 7);
        for (int i = 0; i < 12; i++) {
            x.cue(i == 2 ? 3 : 0);
        }
        int[] due = {0, 1, 2, 7, 8, 9, 10, 11, 12, 12, 12, 12, 12};
        for (int i = 0; i <= 12; i++) {
            Due.is("run(0, " + i + ")", x.run(0, i), due[i]);
        }
        x = Due.test(23, "THE END stays");
        x.cue(1);
        x.cue(3);
        Due.is("run(12, 2)", x.run(12, 2), 12);
        Due.is("run(11, 1)", x.run(11, 1), 12);
        Due.is("run(11, 2)", x.run(11, 2), 12);
        x = Due.test(23, "NEXT as it is now, nothing being changed");
        x.scene(0, 1, 0);
        x.cue(1);
        x.cue(0);
        Due.is("run(0, 2)", x.run(0, 2), 1);
        x.call(0, 1);
        Due.is("run(0, 2)", x.run(0, 2), 0);
    }

    private static void shortestWays() {
        FilmLooksBack x = Due.test(24, "how many (0: it is there)");
        Due.is("shortest(0, 0, NONE)", x.shortest(0, 0, NONE), 0);
        Due.is("shortest(11, 11, NONE)", x.shortest(11, 11, NONE), 0);
        Due.is("shortest(12, 12, NONE)", x.shortest(12, 12, NONE), 0);
        x = Due.test(24, "it is there, though it could come again");
        Houses.leadAlways(x, 4, 4);
        Due.is("shortest(4, 4, NONE)", x.shortest(4, 4, NONE), 0);
        Due.is("shortest(4, 4, 0)", x.shortest(4, 4, 0), -2);
        x = Due.test(24, "the longest: 12 cues, the last of them");
        Due.is("shortest(0, 12, NONE)", x.shortest(0, 12, NONE), 12);
        Due.is("shortest(0, 12, 11)", x.shortest(0, 12, 11), 0);
        Due.is("shortest(0, 12, 12)", x.shortest(0, 12, 12), -2);
        x = Due.test(24, "by the highest cue alone");
        x.scene(0, 3, 9);
        x.scene(9, 3, 12);
        Due.is("shortest(0, 12, NONE)", x.shortest(0, 12, NONE), 2);
        Due.is("shortest(0, 12, 0)", x.shortest(0, 12, 0), 3);
        Due.is("shortest(0, 12, 1)", x.shortest(0, 12, 1), 3);
        Due.is("shortest(0, 12, 2)", x.shortest(0, 12, 2), -2);
        x = Due.test(24, "the i-th: each of 2 1 3, from SCENE 6 by 8 and 2");
        x.scene(6, 2, 8);
        x.scene(8, 1, 2);
        x.scene(2, 3, 12);
        int[] due = {2, 1, 3};
        Due.is("shortest(6, 12, NONE)", x.shortest(6, 12, NONE), 3);
        for (int i = 0; i < 3; i++) {
            Due.is("shortest(6, 12, " + i + ")", x.shortest(6, 12, i), due[i]);
        }
        x = Due.test(24, "the longest, by SCENES from the highest down: 12 cues, each its own");
        for (int s = 0; s < 12; s++) {
            Houses.leadAlways(x, s, s);
            x.scene(s, s % 4, s == 0 ? 12 : s - 1);
        }
        Due.is("shortest(11, 12, NONE)", x.shortest(11, 12, NONE), 12);
        for (int i = 0; i < 12; i++) {
            Due.is("shortest(11, 12, " + i + ")", x.shortest(11, 12, i), (11 - i) % 4);
        }
        x = Due.test(24, "none: THE END leads nowhere, nothing leads back");
        Due.is("shortest(12, 0, NONE)", x.shortest(12, 0, NONE), -2);
        Due.is("shortest(1, 0, NONE)", x.shortest(1, 0, NONE), -2);
        Due.is("shortest(1, 0, 0)", x.shortest(1, 0, 0), -2);
        x = Due.test(24, "by cue 0 as it is now");
        x.scene(0, 1, 12);
        x.call(0, 1);
        Due.is("shortest(0, 12, 0)", x.shortest(0, 12, 0), 0);
        Due.is("shortest(0, 1, 0)", x.shortest(0, 1, 0), 2);
        x.mend(0);
        Due.is("shortest(0, 12, 0)", x.shortest(0, 12, 0), 1);
        Due.is("shortest(0, 1, 0)", x.shortest(0, 1, 0), 0);
    }

    private static void likeWays() {
        FilmLooksBack x = Due.test(24, "of like ones the lowest first cue, then the next: 1 3, not 2 0");
        x.scene(0, 1, 2);
        x.scene(2, 3, 9);
        x.scene(0, 2, 3);
        x.scene(3, 0, 9);
        Due.is("shortest(0, 9, NONE)", x.shortest(0, 9, NONE), 2);
        Due.is("shortest(0, 9, 0)", x.shortest(0, 9, 0), 1);
        Due.is("shortest(0, 9, 1)", x.shortest(0, 9, 1), 3);
        x = Due.test(24, "of like ones the lowest: all four lead so");
        Due.is("shortest(3, 4, 0)", x.shortest(3, 4, 0), 0);
        x = Due.test(24, "the fewest cues, though the first of more is lower");
        x.scene(0, 3, 5);
        Due.is("shortest(0, 5, NONE)", x.shortest(0, 5, NONE), 1);
        Due.is("shortest(0, 5, 0)", x.shortest(0, 5, 0), 3);
    }

    private static void plays() {
        FilmLooksBack x = Due.test(25, "0 at THE END");
        Due.is("soonest(12, true)", x.soonest(12, true), 0);
        Due.is("soonest(12, false)", x.soonest(12, false), 0);
        x = Due.test(25, "1 at SCENE 11, 12 at SCENE 0: nobody can choose");
        Due.is("soonest(11, true)", x.soonest(11, true), 1);
        Due.is("soonest(11, false)", x.soonest(11, false), 1);
        Due.is("soonest(0, true)", x.soonest(0, true), 12);
        Due.is("soonest(0, false)", x.soonest(0, false), 12);
        x = Due.test(25, "never: THE END can't come");
        Houses.leadAlways(x, 11, 11);
        Due.is("soonest(0, true)", x.soonest(0, true), NONE);
        Due.is("soonest(11, false)", x.soonest(11, false), NONE);
        x = Due.test(25, "the former as soon as can be, the latter as late");
        x.scene(0, 1, 12);
        Due.is("soonest(0, true)", x.soonest(0, true), 1);
        Due.is("soonest(0, false)", x.soonest(0, false), 12);
        x = Due.test(25, "the latter as late: it stays once, then the former goes on");
        x.scene(0, 3, 0);
        Due.is("soonest(0, false)", x.soonest(0, false), 13);
        Due.is("soonest(0, true)", x.soonest(0, true), 12);
        Due.is("soonest(1, false)", x.soonest(1, false), 11);
        x = Due.test(25, "or never, in turn: the former can go from 0 to 1 alone, the latter from 1 to 0");
        x.scene(1, 2, 0);
        Due.is("soonest(1, false)", x.soonest(1, false), NONE);
        Due.is("soonest(0, true)", x.soonest(0, true), NONE);
        Due.is("soonest(0, false)", x.soonest(0, false), 12);
        Due.is("soonest(1, true)", x.soonest(1, true), 11);
        x = Due.test(25, "never, though it was asked when it could come");
        Houses.leadAlways(x, 0, 12);
        Due.is("soonest(0, true)", x.soonest(0, true), 1);
        Due.is("soonest(0, false)", x.soonest(0, false), 1);
        Houses.leadAlways(x, 0, 0);
        Due.is("soonest(0, true)", x.soonest(0, true), NONE);
        Due.is("soonest(0, false)", x.soonest(0, false), NONE);
        x = Due.test(25, "by cue 0 as it is now");
        x.scene(0, 1, 12);
        x.call(0, 1);
        x.scene(0, 1, 1);
        Due.is("soonest(0, true)", x.soonest(0, true), 1);
        Due.is("best(0, true)", x.best(0, true), 0);
        Due.is("best(0, false)", x.best(0, false), 1);
        x = Due.test(25, "the longest: 24 cues, the latter staying each time");
        for (int s = 0; s < 12; s++) {
            x.scene(s, 1, s);
        }
        for (int s = 0; s < 12; s++) {
            Due.is("soonest(" + s + ", true)", x.soonest(s, true), 23 - 2 * s);
            Due.is("soonest(" + s + ", false)", x.soonest(s, false), 24 - 2 * s);
            Due.is("best(" + s + ", true)", x.best(s, true), 0);
            Due.is("best(" + s + ", false)", x.best(s, false), 1);
        }
    }

    private static void playCues() {
        FilmLooksBack x = Due.test(26, "none at THE END");
        Due.is("best(12, true)", x.best(12, true), NONE);
        Due.is("best(12, false)", x.best(12, false), NONE);
        x = Due.test(26, "none of the former, if it never comes");
        Houses.leadAlways(x, 11, 11);
        Due.is("best(0, true)", x.best(0, true), NONE);
        Due.is("best(11, true)", x.best(11, true), NONE);
        x = Due.test(26, "the latter has a cue, though it never comes by any: the lowest");
        Houses.leadAlways(x, 11, 11);
        Due.is("best(0, false)", x.best(0, false), 0);
        x = Due.test(26, "of like ones the lowest: all four, for both");
        Due.is("best(11, true)", x.best(11, true), 0);
        Due.is("best(11, false)", x.best(11, false), 0);
        x = Due.test(26, "the former: soonest, the lowest of 1 and 3");
        x.scene(5, 1, 11);
        x.scene(5, 3, 11);
        Due.is("best(5, true)", x.best(5, true), 1);
        Due.is("soonest(5, true)", x.soonest(5, true), 2);
        x = Due.test(26, "the former: by cue 3 alone");
        x.scene(5, 3, 12);
        Due.is("best(5, true)", x.best(5, true), 3);
        x = Due.test(26, "the latter: by which it never does, the lowest of 2 and 3, not the latest");
        x.scene(5, 1, 0);
        x.scene(5, 2, 11);
        Houses.leadAlways(x, 10, 10);
        x.scene(5, 3, 10);
        x.scene(5, 0, 11);
        Due.is("best(5, false): 1 by 0, and from there to 5 and 10", x.best(5, false), 1);
        x.scene(5, 1, 11);
        Due.is("best(5, false)", x.best(5, false), 3);
        x.scene(5, 2, 10);
        Due.is("best(5, false)", x.best(5, false), 2);
        x = Due.test(26, "the latter: latest, the lowest of 1 and 2");
        x.scene(5, 0, 12);
        x.scene(5, 1, 9);
        x.scene(5, 2, 9);
        x.scene(5, 3, 10);
        Due.is("best(5, false)", x.best(5, false), 1);
        Due.is("soonest(5, false)", x.soonest(5, false), 4);
    }

    private static void odds() {
        FilmLooksBack x = Due.test(27, "within 0 cues: never from a SCENE, sure at THE END");
        Due.is("odds(11, 0, false)", x.odds(11, 0, false), 0);
        Due.is("odds(11, 0, true)", x.odds(11, 0, true), 1);
        Due.is("odds(12, 0, false)", x.odds(12, 0, false), 1);
        Due.is("odds(12, 0, true)", x.odds(12, 0, true), 1);
        x = Due.test(27, "within 9 cues: from SCENE 3 sure, from SCENE 2 never; THE END stays");
        Due.is("odds(3, 9, false)", x.odds(3, 9, false), 1);
        Due.is("odds(3, 9, true)", x.odds(3, 9, true), 1);
        Due.is("odds(2, 9, false)", x.odds(2, 9, false), 0);
        Due.is("odds(2, 9, true)", x.odds(2, 9, true), 1);
        Due.is("odds(11, 9, false)", x.odds(11, 9, false), 1);
        Due.is("odds(12, 9, true)", x.odds(12, 9, true), 1);
        x = Due.test(27, "in lowest terms: 1 - (9 of 10) nine times over can't be less");
        eachToItself(x);
        x.scene(0, 3, 12);
        Due.is("odds(0, 9, false)", x.odds(0, 9, false), 612579511);
        Due.is("odds(0, 9, true)", x.odds(0, 9, true), 1000000000);
        x = Due.test(27, "in lowest terms: 1 - (1 of 2) nine times over");
        eachToItself(x);
        x.scene(0, 3, 12);
        x.weigh(5, 0, 0, 5);
        Due.is("odds(0, 9, false)", x.odds(0, 9, false), 511);
        Due.is("odds(0, 9, true)", x.odds(0, 9, true), 512);
        x = Due.test(27, "in lowest terms: 2 of 10, by fives; 4 of 10, by twos");
        eachToItself(x);
        x.scene(0, 3, 12);
        x.weigh(5, 3, 0, 2);
        Due.is("odds(0, 1, false)", x.odds(0, 1, false), 1);
        Due.is("odds(0, 1, true)", x.odds(0, 1, true), 5);
        x.weigh(5, 0, 0, 5);
        Due.is("odds(0, 1, true)", x.odds(0, 1, true), 2);
        x = Due.test(27, "within n: what came sooner counts");
        x.scene(0, 2, 12);
        x.scene(0, 1, 11);
        Due.is("odds(0, 1, false)", x.odds(0, 1, false), 1);
        Due.is("odds(0, 2, false)", x.odds(0, 2, false), 1);
        Due.is("odds(0, 2, true)", x.odds(0, 2, true), 5);
        x = Due.test(27, "cue 0 by NEXT as it is now");
        eachToItself(x);
        x.scene(0, 3, 12);
        x.call(0, 3);
        Due.is("odds(0, 1, false)", x.odds(0, 1, false), 4);
        Due.is("odds(0, 1, true)", x.odds(0, 1, true), 5);
    }

    private static void weights() {
        for (int c = 0; c < 4; c++) {
            FilmLooksBack x = Due.test(28, "10 of cue " + c + ", 0 of the others");
            eachToItself(x);
            for (int s = 0; s < 4; s++) {
                x.scene(s, s, 12);
            }
            int[] o = new int[4];
            o[c] = 10;
            Due.is("weigh", x.weigh(o[0], o[1], o[2], o[3]), true);
            for (int s = 0; s < 4; s++) {
                Due.is("odds(" + s + ", 9, false)", x.odds(s, 9, false), s == c ? 1 : 0);
                Due.is("odds(" + s + ", 9, true)", x.odds(s, 9, true), 1);
            }
        }
        FilmLooksBack x = Due.test(28, "(told: of 10 together): each its own");
        eachToItself(x);
        for (int s = 0; s < 4; s++) {
            x.scene(s, s, 12);
        }
        Due.is("weigh(1, 7, 0, 2)", x.weigh(1, 7, 0, 2), true);
        long[] due = {1, 7, 0, 1};
        long[] low = {10, 10, 1, 5};
        for (int s = 0; s < 4; s++) {
            Due.is("odds(" + s + ", 1, false)", x.odds(s, 1, false), due[s]);
            Due.is("odds(" + s + ", 1, true)", x.odds(s, 1, true), low[s]);
        }
    }

    private static void ways() {
        FilmLooksBack x = Due.test(37, "0 cues: THE END alone");
        Due.is("ways(12, 0)", x.ways(12, 0), 1);
        Due.is("ways(11, 0)", x.ways(11, 0), 0);
        Due.is("ways(0, 0)", x.ways(0, 0), 0);
        x = Due.test(37, "at the n-th just: from THE END none");
        for (int n = 1; n <= 12; n++) {
            Due.is("ways(12, " + n + ")", x.ways(12, n), 0);
        }
        x = Due.test(37, "at the n-th just: not sooner, not later");
        Due.is("ways(10, 1)", x.ways(10, 1), 0);
        Due.is("ways(10, 2)", x.ways(10, 2), 16);
        Due.is("ways(10, 3)", x.ways(10, 3), 0);
        x = Due.test(37, "n 12: 4 times 4 .. 12 times over");
        Due.is("ways(0, 12)", x.ways(0, 12), 16777216);
        x = Due.test(37, "rows of n cues: each cue its own");
        eachToItself(x);
        x.scene(0, 3, 12);
        Due.is("ways(0, 1)", x.ways(0, 1), 1);
        Due.is("ways(0, 2)", x.ways(0, 2), 3);
        Due.is("ways(0, 12)", x.ways(0, 12), 177147);
        x = Due.test(37, "none: THE END can't come");
        eachToItself(x);
        Due.is("ways(5, 12)", x.ways(5, 12), 0);
        x = Due.test(37, "by cue 0 as it is now; ODDS don't matter");
        eachToItself(x);
        x.weigh(10, 0, 0, 0);
        x.scene(0, 3, 12);
        x.call(0, 3);
        Due.is("ways(0, 1)", x.ways(0, 1), 2);
    }

    private static void sorts() {
        FilmLooksBack x = Due.test(29, "how many sorts: 13 at most");
        Due.is("kinds(NONE)", x.kinds(NONE), 13);
        for (int s = 0; s <= 12; s++) {
            Due.is("kinds(" + s + ")", x.kinds(s), s);
        }
        x = Due.test(29, "how many sorts: 2 at least (THE END is of a KIND of its own)");
        eachToItself(x);
        Due.is("kinds(NONE)", x.kinds(NONE), 2);
        Due.is("kinds(0)", x.kinds(0), 0);
        Due.is("kinds(11)", x.kinds(11), 0);
        Due.is("kinds(12)", x.kinds(12), 1);
        for (int kind = 0; kind < 4; kind++) {
            x = Due.test(29, "THE END is of a KIND of its own, not " + kind);
            eachToItself(x);
            for (int s = 0; s < 12; s++) {
                x.kind(s, kind);
            }
            Due.is("kinds(NONE)", x.kinds(NONE), 2);
        }
        x = Due.test(29, "by any row of cues (also of none): KINDS alone part them");
        eachToItself(x);
        x.kind(11, 3);
        Due.is("kinds(NONE)", x.kinds(NONE), 3);
        Due.is("kinds(11)", x.kinds(11), 1);
        Due.is("kinds(12)", x.kinds(12), 2);
        x = Due.test(29, "in the order of their lowest SCENE");
        eachToItself(x);
        x.kind(0, 2);
        x.kind(3, 2);
        x.kind(2, 1);
        int[] due = {0, 1, 2, 0, 1};
        for (int s = 0; s < 5; s++) {
            Due.is("kinds(" + s + ")", x.kinds(s), due[s]);
        }
        Due.is("kinds(NONE)", x.kinds(NONE), 4);
        x = Due.test(29, "by any row: by cue 3 alone they are parted");
        eachToItself(x);
        x.scene(5, 3, 12);
        Due.is("kinds(NONE)", x.kinds(NONE), 3);
        Due.is("kinds(5)", x.kinds(5), 1);
        x = Due.test(29, "by cue 0 as it is now");
        eachToItself(x);
        x.scene(5, 3, 12);
        x.scene(6, 3, 12);
        Due.is("kinds(6)", x.kinds(6), 1);
        x.call(6, 3);
        Due.is("kinds(6)", x.kinds(6), 2);
        x.mend(6);
        Due.is("kinds(6)", x.kinds(6), 1);
        x = Due.test(29, "two that lead to each other and to themselves are like");
        eachToItself(x);
        x.kind(9, 1);
        x.scene(4, 1, 9);
        x.scene(7, 1, 9);
        x.scene(4, 2, 7);
        x.scene(7, 2, 4);
        Due.is("kinds(4)", x.kinds(4), 1);
        Due.is("kinds(7)", x.kinds(7), 1);
        Due.is("kinds(NONE)", x.kinds(NONE), 4);
    }

    private static void parted() {
        FilmLooksBack x = Due.test(30, "nothing does: a SCENE and itself, THE END and itself");
        Due.is("parts(0, 0)", x.parts(0, 0), NONE);
        Due.is("parts(11, 11)", x.parts(11, 11), NONE);
        Due.is("parts(12, 12)", x.parts(12, 12), NONE);
        x = Due.test(30, "nothing does: two that are like");
        eachToItself(x);
        Due.is("parts(0, 11)", x.parts(0, 11), NONE);
        x = Due.test(30, "0: a SCENE and THE END, either way round");
        Due.is("parts(11, 12)", x.parts(11, 12), 0);
        Due.is("parts(12, 0)", x.parts(12, 0), 0);
        x = Due.test(30, "0: of unlike KINDS");
        x.kind(3, 1);
        Due.is("parts(2, 3)", x.parts(2, 3), 0);
        x = Due.test(30, "the longest: 11 cues, either way round");
        Due.is("parts(0, 1)", x.parts(0, 1), 11);
        Due.is("parts(1, 0)", x.parts(1, 0), 11);
        Due.is("parts(0, 11)", x.parts(0, 11), 1);
        x = Due.test(30, "the fewest cues: by cue 3 sooner");
        x.scene(0, 3, 12);
        Due.is("parts(0, 1)", x.parts(0, 1), 1);
        Due.is("parts(1, 2)", x.parts(1, 2), 10);
        x = Due.test(30, "the fewest cues: by a KIND on the way");
        x.kind(4, 2);
        Due.is("parts(0, 1)", x.parts(0, 1), 3);
    }

    private static void rounds() {
        FilmLooksBack x = Due.test(31, "behind one cue: itself, by any of the four");
        for (int c = 0; c < 4; c++) {
            x.scene(c, c, c);
            Due.is("round(" + c + ")", x.round(c), 1);
        }
        Due.is("round(4)", x.round(4), 0);
        x = Due.test(31, "behind 12 cues");
        x.scene(11, 3, 0);
        for (int s = 0; s < 12; s++) {
            Due.is("round(" + s + ")", x.round(s), 1);
        }
        x = Due.test(31, "not one that leads into a round, nor one behind it");
        x.scene(5, 1, 4);
        Due.is("round(3)", x.round(3), 0);
        Due.is("round(4)", x.round(4), 1);
        Due.is("round(5)", x.round(5), 1);
        Due.is("round(6)", x.round(6), 0);
        x = Due.test(31, "none: all lead on");
        Due.is("round(0)", x.round(0), 0);
        Due.is("round(11)", x.round(11), 0);
        x = Due.test(31, "by cue 0 as it is now");
        x.scene(3, 1, 2);
        x.call(3, 1);
        x.scene(3, 1, 4);
        Due.is("round(2)", x.round(2), 1);
        x.mend(3);
        Due.is("round(2)", x.round(2), 0);
    }

    private static void deadAndFar() {
        FilmLooksBack x = Due.test(32, "DEAD: none");
        Due.is("dead()", x.dead(), 0);
        x = Due.test(32, "DEAD: all");
        Houses.leadAlways(x, 11, 0);
        Due.is("dead()", x.dead(), ALL);
        x = Due.test(32, "DEAD: SCENE 0 alone, SCENE 11 not");
        Houses.leadAlways(x, 0, 0);
        Due.is("dead()", x.dead(), 1);
        x = Due.test(32, "DEAD: SCENE 11, and what leads to it alone");
        Houses.leadAlways(x, 11, 11);
        x.scene(3, 3, 12);
        Due.is("dead()", x.dead(), ALL - 15);
        x = Due.test(32, "DEAD: by cue 0 as it is now");
        Houses.leadAlways(x, 0, 0);
        x.scene(0, 1, 12);
        x.call(0, 1);
        x.scene(0, 1, 0);
        Due.is("dead()", x.dead(), 0);
        x.mend(0);
        Due.is("dead()", x.dead(), 1);
        x = Due.test(33, "FAR: none, all are DEAD");
        Houses.leadAlways(x, 11, 0);
        Due.is("far()", x.far(), NONE);
        x = Due.test(33, "FAR: SCENE 0, 12 cues");
        Due.is("far()", x.far(), 0);
        x = Due.test(33, "FAR: of those not DEAD, 11 alone");
        Houses.leadAlways(x, 10, 0);
        Due.is("far()", x.far(), 11);
        x = Due.test(33, "FAR: of like ones the lowest, all 1 cue");
        for (int s = 0; s < 12; s++) {
            x.scene(s, 2, 12);
        }
        Due.is("far()", x.far(), 0);
        x = Due.test(33, "FAR: of like ones the lowest, 1 and 2 (4 cues)");
        for (int s = 0; s < 12; s++) {
            x.scene(s, 1, 12);
        }
        Houses.leadAlways(x, 1, 7);
        Houses.leadAlways(x, 2, 7);
        Houses.leadAlways(x, 7, 8);
        Due.is("far()", x.far(), 1);
    }

    private static void watched() {
        FilmLooksBack x = Due.test(34, "kind NONE: all may be, anew; all 12");
        x.look(3);
        Due.is("look(NONE)", x.look(NONE), ALL);
        Due.is("look(0): SCENE 0 leads on, THE END aside", x.look(0), ALL - 1);
        for (int kind = 0; kind < 4; kind++) {
            x = Due.test(34, "a KIND 0 .. 3: those of " + kind + " alone");
            for (int s = 0; s < 12; s++) {
                x.kind(s, s % 4);
            }
            Due.is("look(" + kind + ")", x.look(kind), (273 << kind + 1) & ALL);
        }
        x = Due.test(34, "none is of that KIND: it may be none; and stays so");
        Due.is("look(1)", x.look(1), 0);
        Due.is("look(0)", x.look(0), 0);
        x = Due.test(34, "THE END aside: SCENE 11 alone");
        x.kind(11, 1);
        Due.is("look(1)", x.look(1), 0);
        x = Due.test(34, "SCENE 11 goes on, too");
        x.kind(11, 1);
        x.scene(11, 2, 4);
        Due.is("look(1)", x.look(1), 16);
        x = Due.test(34, "by any cue: four SCENES");
        x.kind(5, 1);
        for (int c = 0; c < 4; c++) {
            x.scene(5, c, c * 3 + 1);
        }
        Due.is("look(1)", x.look(1), 2 + 16 + 128 + 1024);
        x = Due.test(34, "that is kept: it goes on from there");
        x.kind(5, 1);
        Due.is("look(1)", x.look(1), 64);
        Due.is("look(0)", x.look(0), 128);
        Due.is("look(1)", x.look(1), 0);
        x = Due.test(34, "by cue 0 as it is now");
        x.kind(5, 1);
        x.scene(5, 1, 9);
        x.call(5, 1);
        x.scene(5, 1, 6);
        Due.is("look(1)", x.look(1), 64 + 512);
        x = Due.test(34, "kind -1 is NONE, not a KIND");
        x.kind(5, 1);
        x.look(1);
        Due.is("look(-1)", x.look(-1), ALL);
    }

    private static void sureOnes() {
        FilmLooksBack x = Due.test(35, "it may be another one, too: all 12");
        Due.is("sure()", x.sure(), NONE);
        for (int s = 0; s < 12; s++) {
            x = Due.test(35, "SURE: SCENE " + s);
            x.kind(3, 1);
            Houses.leadAlways(x, 3, s);
            x.look(1);
            Due.is("sure()", x.sure(), s);
        }
        x = Due.test(35, "it may be another one, too: two");
        x.kind(3, 1);
        x.scene(3, 2, 0);
        x.look(1);
        Due.is("sure()", x.sure(), NONE);
        x = Due.test(35, "or none");
        x.look(3);
        Due.is("sure()", x.sure(), NONE);
    }

    private static void telling() {
        FilmLooksBack x = Due.test(36, "none (it may be none)");
        x.look(3);
        Due.is("tells()", x.tells(), NONE);
        x = Due.test(36, "of like ones the lowest: all four tell the same");
        Due.is("tells()", x.tells(), 0);
        for (int c = 0; c < 4; c++) {
            x = Due.test(36, "the cue behind which KINDS are of the most sorts: " + c);
            eachToItself(x);
            x.scene(0, c, 11);
            x.kind(11, 2);
            x.kind(5, 2);
            x.kind(0, 1);
            x.scene(6, c, 0);
            for (int other = 0; other < 4; other++) {
                x.scene(0, other, other == c ? 11 : 5);
            }
            Due.is("tells()", x.tells(), c);
        }
        for (int c = 0; c < 4; c++) {
            x = Due.test(36, "(THE END a KIND of its own): by cue " + c);
            eachToItself(x);
            x.scene(7, c, 12);
            Due.is("tells()", x.tells(), c);
        }
        for (int s = 0; s < 12; s++) {
            x = Due.test(36, "KINDS of those it may be: of each, SCENE " + s);
            eachToItself(x);
            x.scene(s, 2, 12);
            Due.is("tells()", x.tells(), 2);
        }
        for (int kind = 0; kind < 4; kind++) {
            x = Due.test(36, "(THE END a KIND of its own): unlike KIND " + kind);
            eachToItself(x);
            for (int s = 0; s < 12; s++) {
                x.kind(s, kind);
            }
            x.scene(5, 3, 12);
            Due.is("tells()", x.tells(), 3);
        }
        x = Due.test(36, "of the most sorts: 5, by cue 1");
        eachToItself(x);
        for (int s = 0; s < 12; s++) {
            x.kind(s, s % 4);
        }
        Due.is("tells(): 4 by each", x.tells(), 0);
        x.scene(9, 1, 12);
        Due.is("tells()", x.tells(), 1);
        x = Due.test(36, "of like ones the lowest: 1 and 3");
        eachToItself(x);
        x.scene(7, 1, 12);
        x.scene(8, 3, 12);
        Due.is("tells()", x.tells(), 1);
        x = Due.test(36, "KINDS of those it may be: of one alone");
        x.kind(3, 1);
        Houses.leadAlways(x, 3, 11);
        x.look(1);
        Due.is("sure()", x.sure(), 11);
        x.scene(11, 2, 0);
        Due.is("tells(): one sort by each", x.tells(), 0);
        x = Due.test(36, "KINDS behind it, not those they have now");
        eachToItself(x);
        x.kind(0, 1);
        x.kind(1, 2);
        x.scene(0, 0, 2);
        x.scene(1, 0, 2);
        Due.is("tells()", x.tells(), 1);
        x = Due.test(36, "by cue 0 as it is now");
        eachToItself(x);
        x.scene(7, 1, 12);
        x.call(7, 1);
        Due.is("tells()", x.tells(), 0);
    }

    private static void likes() {
        FilmLooksBack x = Due.test(38, "LIKES 0 .. 99: 99; told again: 0");
        x.person(0, 0);
        Due.is("likes(0, 3, 99)", x.likes(0, 3, 99), true);
        Due.is("roster(1, NONE)", x.roster(1, NONE), 99);
        Due.is("likes(0, 3, 0)", x.likes(0, 3, 0), true);
        Due.is("roster(1, NONE)", x.roster(1, NONE), 0);
        for (int e = 0; e < 5; e++) {
            x = Due.test(38, "the e-th of five EVENINGS, 0 .. 4: " + e);
            x.person(0, 0);
            Due.is("likes", x.likes(0, e, 1), true);
            Due.is("roster(1, 0)", x.roster(1, 0), e);
            Due.is("roster(1, NONE)", x.roster(1, NONE), 1);
        }
        x = Due.test(38, "PERSONS there or not: told ahead of the PERSON");
        Due.is("likes(7, 4, 9)", x.likes(7, 4, 9), true);
        for (int p = 0; p < 8; p++) {
            Due.is("roster(8, NONE)", x.roster(8, NONE), 0);
            x.person(0, 0);
        }
        Due.is("roster(8, NONE)", x.roster(8, NONE), 9);
        Due.is("roster(8, 7)", x.roster(8, 7), 4);
    }

    private static void rosters() {
        FilmLooksBack x = Due.test(39, "nobody: LIKES together are 0, no EVENING");
        Due.is("roster(1, NONE)", x.roster(1, NONE), 0);
        Due.is("roster(8, NONE)", x.roster(8, NONE), 0);
        Due.is("roster(1, 0)", x.roster(1, 0), NONE);
        x = Due.test(39, "k on each at most: 5 on 5 by k 1, 6 are too many");
        for (int p = 0; p < 5; p++) {
            x.person(0, 0);
        }
        Due.is("roster(1, NONE)", x.roster(1, NONE), 0);
        Due.is("roster(1, 4)", x.roster(1, 4), 4);
        x.person(0, 0);
        Due.is("roster(1, NONE)", x.roster(1, NONE), NONE);
        Due.is("roster(1, 4)", x.roster(1, 4), NONE);
        Due.is("roster(2, NONE)", x.roster(2, NONE), 0);
        x = Due.test(39, "k on each at most: 8 by k 2");
        for (int p = 0; p < 8; p++) {
            x.person(0, 0);
        }
        for (int p = 0; p < 8; p++) {
            Due.is("roster(2, " + p + ")", x.roster(2, p), p / 2);
        }
        for (int k = 2; k <= 8; k++) {
            x = Due.test(39, "k on each at most: all 8 would have EVENING 3, k " + k);
            for (int p = 0; p < 8; p++) {
                x.person(0, 0);
                x.likes(p, 3, 99);
            }
            Due.is("roster(k, NONE)", x.roster(k, NONE), 99 * k);
            // of like ones the lowest, PERSON by PERSON: the first fill 0, then 1 .., the last k have 3
            for (int p = 0; p < 8; p++) {
                Due.is("roster(k, " + p + ")", x.roster(k, p), p >= 8 - k ? 3 : p / k);
            }
        }
        x = Due.test(39, "k 8: each has what it likes most, 792 together");
        for (int p = 0; p < 8; p++) {
            x.person(0, 0);
            x.likes(p, p % 5, 99);
        }
        Due.is("roster(8, NONE)", x.roster(8, NONE), 792);
        for (int p = 0; p < 8; p++) {
            Due.is("roster(8, " + p + ")", x.roster(8, p), p % 5);
        }
        x = Due.test(39, "each PERSON, in whatever row");
        x.person(0, 0);
        x.person(0, 9);
        x.likes(0, 2, 5);
        x.likes(1, 2, 4);
        Due.is("roster(2, NONE)", x.roster(2, NONE), 9);
        Due.is("roster(1, NONE)", x.roster(1, NONE), 5);
        Due.is("roster(1, 1)", x.roster(1, 1), 0);
    }

    private static void rostersOfLikeOnes() {
        FilmLooksBack x = Due.test(39, "most LIKES together, though the first has less: 0 gives way by 1");
        x.person(0, 0);
        x.person(0, 0);
        x.likes(0, 0, 50);
        x.likes(0, 1, 49);
        x.likes(1, 0, 52);
        x.likes(1, 1, 50);
        Due.is("roster(1, NONE)", x.roster(1, NONE), 101);
        Due.is("roster(1, 0)", x.roster(1, 0), 1);
        Due.is("roster(1, 1)", x.roster(1, 1), 0);
        x = Due.test(39, "most LIKES together: four give way, each to the next EVENING");
        for (int p = 0; p < 5; p++) {
            x.person(0, 0);
            x.likes(p, p % 4, 50);
            x.likes(p, p % 4 + 1, p < 4 ? 49 : 0);
        }
        Due.is("roster(1, NONE)", x.roster(1, NONE), 246);
        for (int p = 0; p < 5; p++) {
            Due.is("roster(1, " + p + ")", x.roster(1, p), (p + 1) % 5);
        }
        x = Due.test(39, "most LIKES together: four give way, each to the EVENING ahead");
        for (int p = 0; p < 5; p++) {
            x.person(0, 0);
            x.likes(p, p < 4 ? 4 - p : 4, 50);
            x.likes(p, p < 4 ? 3 - p : 3, p < 4 ? 49 : 0);
        }
        Due.is("roster(1, NONE)", x.roster(1, NONE), 246);
        for (int p = 0; p < 5; p++) {
            Due.is("roster(1, " + p + ")", x.roster(1, p), p < 4 ? 3 - p : 4);
        }
        x = Due.test(39, "of like ones PERSON by PERSON: the first has the lowest");
        x.person(0, 0);
        x.person(0, 0);
        for (int p = 0; p < 2; p++) {
            x.likes(p, 2, 30);
            x.likes(p, 4, 30);
        }
        Due.is("roster(1, NONE)", x.roster(1, NONE), 60);
        Due.is("roster(1, 0)", x.roster(1, 0), 2);
        Due.is("roster(1, 1)", x.roster(1, 1), 4);
        x = Due.test(39, "of like ones: the lowest for the first, though the others are all higher then");
        for (int p = 0; p < 5; p++) {
            x.person(0, 0);
        }
        for (int p = 1; p < 5; p++) {
            x.likes(p, p - 1, 10);
            x.likes(p, p, 10);
        }
        Due.is("roster(1, NONE)", x.roster(1, NONE), 40);
        for (int p = 0; p < 5; p++) {
            Due.is("roster(1, " + p + ")", x.roster(1, p), p);
        }
        for (int p = 0; p < 7; p++) {
            x = Due.test(39, "of like ones: " + p + " on 0 and the next on 4, not " + p + " on 1 and the next on 0");
            int[] fixed = {0, 2, 2, 3, 3, 4};
            for (int q = 0; q < 8; q++) {
                x.person(0, 0);
                if (q != p && q != p + 1) {
                    x.likes(q, fixed[q < p ? q : q - 2], 99);
                }
            }
            x.likes(p, 0, 5);
            x.likes(p, 1, 5);
            x.likes(p + 1, 0, 5);
            x.likes(p + 1, 4, 5);
            Due.is("roster(2, NONE)", x.roster(2, NONE), 604);
            for (int q = 0; q < 8; q++) {
                int due = q == p ? 0 : q == p + 1 ? 4 : fixed[q < p ? q : q - 2];
                Due.is("roster(2, " + q + ")", x.roster(2, q), due);
            }
        }
        x = Due.test(39, "one of LIKES is more than all choices of the lowest");
        for (int p = 0; p < 8; p++) {
            x.person(0, 0);
        }
        x.likes(7, 0, 1);
        Due.is("roster(2, NONE)", x.roster(2, NONE), 1);
        int[] due = {0, 1, 1, 2, 2, 3, 3, 0};
        for (int p = 0; p < 8; p++) {
            Due.is("roster(2, " + p + ")", x.roster(2, p), due[p]);
        }
    }

    private static void felt() {
        FilmLooksBack x = Due.test(40, "8 at most: how many there are");
        x.person(5, 1);
        for (int i = 1; i <= 8; i++) {
            Due.is("felt(0, 5)", x.felt(0, 5), i);
        }
        Due.is("the ninth", x.felt(0, 5), -2);
        Due.is("about(5)", x.about(5), 8);
        Due.is("person NONE: none any more", x.felt(NONE, 0), 0);
        Due.is("about(5)", x.about(5), 0);
        Due.is("anew", x.felt(0, 5), 1);
        x = Due.test(40, "person NONE: none any more, whatever the other number is; there was none");
        Due.is("felt(NONE, 100)", x.felt(NONE, 100), 0);
        Due.is("felt(NONE, -1)", x.felt(NONE, -1), 0);
        x = Due.test(40, "by how much 0 .. 99: 0 and 99");
        x.person(0, 1);
        Due.is("felt(0, 0)", x.felt(0, 0), 1);
        Due.is("felt(0, 99)", x.felt(0, 99), 2);
        x = Due.test(40, "a PERSON: the last of 8");
        for (int p = 0; p < 8; p++) {
            x.person(0, 1);
        }
        Due.is("felt(7, 3)", x.felt(7, 3), 1);
    }

    private static void whoseLaw() {
        FilmLooksBack x = Due.test(41, "no TEXT: none");
        x.person(5, 1);
        x.felt(0, 5);
        Due.is("whose()", x.whose(), 0);
        x = Due.test(41, "none FELT: all 4 are so");
        for (int t = 0; t < 4; t++) {
            Tape.read(x, "gladdens " + t + ";");
        }
        Due.is("whose()", x.whose(), 15);
        for (int t = 0; t < 4; t++) {
            x = Due.test(41, "TEXTS (bits): TEXT " + t + " alone");
            x.person(5, 1);
            for (int i = 0; i < 4; i++) {
                Tape.read(x, "gladdens 1" + i + ";");
            }
            x.felt(0, 10 + t);
            Due.is("whose()", x.whose(), 1 << t);
        }
        x = Due.test(41, "all are so: the last of 8 isn't");
        x.person(5, 1);
        Tape.read(x, "gladdens 5;");
        for (int i = 0; i < 7; i++) {
            x.felt(0, 5);
        }
        Due.is("whose()", x.whose(), 1);
        x.felt(0, 6);
        Due.is("whose()", x.whose(), 0);
        x = Due.test(41, "all are so: the first isn't");
        x.person(5, 1);
        Tape.read(x, "gladdens 5;");
        x.felt(0, 6);
        x.felt(0, 5);
        Due.is("whose()", x.whose(), 0);
        x = Due.test(41, "all are so: each PERSON by its own");
        x.person(5, 1);
        x.person(7, 1);
        Tape.read(x, "gladdens who+3;");
        x.felt(1, 4);
        Due.is("whose()", x.whose(), 1);
        x.felt(0, 3);
        Due.is("whose()", x.whose(), 1);
        x.felt(0, 4);
        Due.is("whose()", x.whose(), 0);
        x.felt(NONE, 0);
        x.felt(0, 3);
        Due.is("whose()", x.whose(), 1);
        x = Due.test(41, "a TEXT without it: PLAIN, whichever rules");
        x.person(5, 1);
        Tape.rule(x, "gladdens 7;");
        Tape.read(x, "cues 1;");
        x.felt(0, 5);
        Due.is("whose()", x.whose(), 2);
        x = Due.test(41, "were it ended behind one SCENE: long is 1");
        x.person(5, 1);
        Tape.read(x, "gladdens long+10;");
        x.felt(0, 11);
        Due.is("whose()", x.whose(), 1);
        x = Due.test(41, "gladdens: 0 at least, 99 at most");
        x.person(5, 1);
        Tape.read(x, "gladdens 200;");
        Tape.read(x, "gladdens -200;");
        x.felt(0, 99);
        Due.is("whose()", x.whose(), 1);
        x.felt(NONE, 0);
        x.felt(0, 0);
        Due.is("whose()", x.whose(), 2);
        x = Due.test(41, "(as now): by row, GLAD, DAY, seen as they are now");
        x.person(5, 1);
        Tape.read(x, "gladdens row+glad*2+day*20+seen;");
        x.felt(0, 2);
        Due.is("whose()", x.whose(), 1);
        x.seat(0, 2);
        Due.is("whose()", x.whose(), 0);
        x.felt(NONE, 0);
        x.felt(0, 3);
        Due.is("whose()", x.whose(), 1);
        x.evening(1);
        Due.is("whose()", x.whose(), 0);
        x.felt(NONE, 0);
        x.felt(0, 33);
        Due.is("whose()", x.whose(), 1);
    }
}
