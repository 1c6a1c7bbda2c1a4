import java.util.List;
import java.util.function.Supplier;

/**
 * Each call that the document answers with NONE, false or -2: that it does, and that nothing is done then. A house
 * that was asked so must be as one that was not, in all that can be seen.
 */
public final class Refused {
    private static final int NONE = FilmLooksBack.NONE;
    private static final int MIN = Integer.MIN_VALUE;
    private static final int MAX = Integer.MAX_VALUE;

    private interface Call {
        long on(FilmLooksBack x);
    }

    private interface Order {
        boolean on(FilmLooksBack x);
    }

    public static void main(String[] args) {
        told();
        taped();
        done();
        seen();
        searched();
        known();
        full();
        lastDay();
        asking();
        Due.end();
    }

    private static void refused(Supplier<FilmLooksBack> house, int promise, String words, long due, Call call) {
        Due.test(promise, words);
        FilmLooksBack x = house.get();
        Due.is("the call", call.on(x), due);
        List<Long> after = Houses.all(x);
        List<Long> ahead = Houses.all(house.get());
        Due.is("how much can be seen", after.size(), ahead.size());
        for (int i = 0; i < Math.min(after.size(), ahead.size()); i++) {
            Due.is("what can be seen (" + i + ")", after.get(i), ahead.get(i));
        }
    }

    /** In a new house and in a furnished one. */
    private static void refused(int promise, String words, long due, Call call) {
        refused(Houses::bare, promise, words + " (a new house)", due, call);
        refused(Houses::furnished, promise, words, due, call);
    }

    private static void denied(int promise, String words, Order order) {
        refused(promise, words, 0, x -> order.on(x) ? 1 : 0);
    }

    private static void deniedIn(Supplier<FilmLooksBack> house, int promise, String words, Order order) {
        refused(house, promise, words, 0, x -> order.on(x) ? 1 : 0);
    }

    private static void told() {
        denied(2, "SCENES 0 .. 11: -1", x -> x.scene(-1, 0, 0));
        denied(2, "SCENES 0 .. 11: 12 is THE END, it leads nowhere", x -> x.scene(12, 0, 0));
        denied(2, "SCENES 0 .. 11: the least int", x -> x.scene(MIN, 0, 0));
        denied(2, "SCENES 0 .. 11: the greatest int", x -> x.scene(MAX, 3, 12));
        denied(2, "cue 0 .. 3: -1", x -> x.scene(5, -1, 0));
        denied(2, "cue 0 .. 3: 4", x -> x.scene(5, 4, 0));
        denied(2, "cue 0 .. 3: 4 of SCENE 11", x -> x.scene(11, 4, 0));
        denied(2, "cue 0 .. 3: the least int", x -> x.scene(5, MIN, 0));
        denied(2, "cue 0 .. 3: the greatest int", x -> x.scene(5, MAX, 0));
        denied(2, "next 0 .. 12: -1", x -> x.scene(5, 0, -1));
        denied(2, "next 0 .. 12: 13", x -> x.scene(5, 0, 13));
        denied(2, "next 0 .. 12: the least int", x -> x.scene(5, 1, MIN));
        denied(2, "next 0 .. 12: the greatest int", x -> x.scene(5, 1, MAX));
        denied(3, "SCENES 0 .. 11: -1", x -> x.kind(-1, 0));
        denied(3, "SCENES 0 .. 11: THE END has none of these", x -> x.kind(12, 0));
        denied(3, "SCENES 0 .. 11: the least int", x -> x.kind(MIN, 1));
        denied(3, "SCENES 0 .. 11: the greatest int", x -> x.kind(MAX, 1));
        denied(3, "KIND 0 .. 3: -1", x -> x.kind(0, -1));
        denied(3, "KIND 0 .. 3: 4", x -> x.kind(0, 4));
        denied(3, "KIND 0 .. 3: the least int", x -> x.kind(0, MIN));
        denied(3, "KIND 0 .. 3: the greatest int", x -> x.kind(0, MAX));
        refused(4, "PLAIN 0 .. 9: -1", NONE, x -> x.person(-1, 0));
        refused(4, "PLAIN 0 .. 9: 10", NONE, x -> x.person(10, 0));
        refused(4, "PLAIN 0 .. 9: the least int", NONE, x -> x.person(MIN, 1));
        refused(4, "PLAIN 0 .. 9: the greatest int", NONE, x -> x.person(MAX, 1));
        refused(4, "row 0 .. 9: -1", NONE, x -> x.person(0, -1));
        refused(4, "row 0 .. 9: 10", NONE, x -> x.person(0, 10));
        refused(4, "row 0 .. 9: the least int", NONE, x -> x.person(0, MIN));
        refused(4, "row 0 .. 9: the greatest int", NONE, x -> x.person(0, MAX));
    }

    private static void taped() {
        refused(6, "n is below 0: -1", NONE, x -> x.end(-1));
        refused(6, "n is below 0: the least int", NONE, x -> x.end(MIN));
        refused(6, "it has not so many: one more", NONE, x -> x.end(x.about(6) + 1));
        refused(6, "it has not so many: 301", NONE, x -> x.end(301));
        refused(6, "it has not so many: the greatest int", NONE, x -> x.end(MAX));
        refused(8, "NONE for others: 2", NONE, x -> x.fault(2));
        refused(8, "NONE for others: -1", NONE, x -> x.fault(-1));
        refused(8, "NONE for others: the least int", NONE, x -> x.fault(MIN));
        refused(8, "NONE for others: the greatest int", NONE, x -> x.fault(MAX));
        denied(9, "False for others: -2", x -> x.by(-2));
        denied(9, "False for others: the TEXT that is not there yet", x -> x.by(x.about(1)));
        denied(9, "False for others: 4", x -> x.by(4));
        denied(9, "False for others: the least int", x -> x.by(MIN));
        denied(9, "False for others: the greatest int", x -> x.by(MAX));
        refused(14, "-2 for others: -1", -2, x -> x.played(-1));
        refused(14, "-2 for others: the TEXT that is not there yet", -2, x -> x.played(x.about(1)));
        refused(14, "-2 for others: 4", -2, x -> x.played(4));
        refused(14, "-2 for others: the least int", -2, x -> x.played(MIN));
        refused(14, "-2 for others: the greatest int", -2, x -> x.played(MAX));
    }

    private static void done() {
        denied(10, "a PERSON: -1", x -> x.seat(-1, 1));
        denied(10, "a PERSON: one that is not told yet", x -> x.seat(x.about(0), 1));
        denied(10, "a PERSON: 7, not told yet", x -> x.seat(7, 1));
        denied(10, "a PERSON: 8", x -> x.seat(8, 1));
        denied(10, "a PERSON: the least int", x -> x.seat(MIN, 1));
        denied(10, "a PERSON: the greatest int", x -> x.seat(MAX, 1));
        denied(10, "row 0 .. 9: -1", x -> x.seat(0, -1));
        denied(10, "row 0 .. 9: 10", x -> x.seat(0, 10));
        denied(10, "row 0 .. 9: the least int", x -> x.seat(0, MIN));
        denied(10, "row 0 .. 9: the greatest int", x -> x.seat(0, MAX));
        deniedIn(Houses::furnished, 10, "False, if it sits there", x -> x.seat(2, 6));
        denied(11, "SCENES 0 .. 11: -1", x -> x.call(-1, 1));
        denied(11, "SCENES 0 .. 11: 12", x -> x.call(12, 1));
        denied(11, "SCENES 0 .. 11: the least int", x -> x.call(MIN, 1));
        denied(11, "SCENES 0 .. 11: the greatest int", x -> x.call(MAX, 1));
        deniedIn(Houses::furnished, 11, "a cue 1 .. 3: 0", x -> x.call(2, 0));
        deniedIn(Houses::furnished, 11, "a cue 1 .. 3: 4 (of SCENE 2)", x -> x.call(2, 4));
        deniedIn(Houses::furnished, 11, "a cue 1 .. 3: -1", x -> x.call(9, -1));
        deniedIn(Houses::furnished, 11, "a cue 1 .. 3: the least int", x -> x.call(9, MIN));
        deniedIn(Houses::furnished, 11, "a cue 1 .. 3: the greatest int", x -> x.call(9, MAX));
        denied(11, "by which it is another one: it is the same as told", x -> x.call(3, 2));
        deniedIn(Houses::furnished, 11, "by which it is another one: it is CHANGED so", x -> x.call(2, 1));
        denied(12, "SCENES 0 .. 11: -1", x -> x.mend(-1));
        denied(12, "SCENES 0 .. 11: 12", x -> x.mend(12));
        denied(12, "SCENES 0 .. 11: the least int", x -> x.mend(MIN));
        denied(12, "SCENES 0 .. 11: the greatest int", x -> x.mend(MAX));
        denied(12, "False, if it can't be: it is AS TOLD", x -> x.mend(3));
        refused(13, "1 .. 40: 0", NONE, x -> x.evening(0));
        refused(13, "1 .. 40: 41", NONE, x -> x.evening(41));
        refused(13, "1 .. 40: -1", NONE, x -> x.evening(-1));
        refused(13, "1 .. 40: the least int", NONE, x -> x.evening(MIN));
        refused(13, "1 .. 40: the greatest int", NONE, x -> x.evening(MAX));
        refused(15, "SEED 0 .. 9999: -1", NONE, x -> x.years(-1, 1));
        refused(15, "SEED 0 .. 9999: 10000", NONE, x -> x.years(10000, 1));
        refused(15, "SEED 0 .. 9999: the least int", NONE, x -> x.years(MIN, 1));
        refused(15, "SEED 0 .. 9999: the greatest int", NONE, x -> x.years(MAX, 1));
        refused(15, "n 1 .. 40: 0", NONE, x -> x.years(0, 0));
        refused(15, "n 1 .. 40: 41", NONE, x -> x.years(0, 41));
        refused(15, "n 1 .. 40: -1", NONE, x -> x.years(0, -1));
        refused(15, "n 1 .. 40: the least int", NONE, x -> x.years(0, MIN));
        refused(15, "n 1 .. 40: the greatest int", NONE, x -> x.years(0, MAX));
        refused(Houses::bare, 16, "NONE: there is none", NONE, FilmLooksBack::undo);
    }

    private static void seen() {
        refused(17, "a PERSON: -1", NONE, x -> x.of(-1, 0));
        refused(17, "a PERSON: one that is not told yet", NONE, x -> x.of(x.about(0), 1));
        refused(17, "a PERSON: 7, not told yet", NONE, x -> x.of(7, 3));
        refused(17, "a PERSON: 8", NONE, x -> x.of(8, 0));
        refused(17, "a PERSON: the least int", NONE, x -> x.of(MIN, 2));
        refused(17, "a PERSON: the greatest int", NONE, x -> x.of(MAX, 3));
        refused(17, "NONE for others: what -1", NONE, x -> x.of(0, -1));
        refused(17, "NONE for others: what 4", NONE, x -> x.of(0, 4));
        refused(17, "NONE for others: what the least int", NONE, x -> x.of(0, MIN));
        refused(17, "NONE for others: what the greatest int", NONE, x -> x.of(0, MAX));
        refused(18, "SCENES 0 .. 11: -1", NONE, x -> x.ofScene(-1, 0));
        for (int what = 0; what < 8; what++) {
            int asked = what;
            refused(18, "SCENES 0 .. 11: 12, what " + what, NONE, x -> x.ofScene(12, asked));
        }
        refused(18, "SCENES 0 .. 11: the least int", NONE, x -> x.ofScene(MIN, 4));
        refused(18, "SCENES 0 .. 11: the greatest int", NONE, x -> x.ofScene(MAX, 7));
        refused(18, "NONE for others: what -1", NONE, x -> x.ofScene(0, -1));
        refused(18, "NONE for others: what 8", NONE, x -> x.ofScene(0, 8));
        refused(18, "NONE for others: what the least int", NONE, x -> x.ofScene(0, MIN));
        refused(18, "NONE for others: what the greatest int", NONE, x -> x.ofScene(0, MAX));
        refused(19, "-2 for others: -1", -2, x -> x.is(-1));
        refused(19, "-2 for others: 4", -2, x -> x.is(4));
        refused(19, "-2 for others: the least int", -2, x -> x.is(MIN));
        refused(19, "-2 for others: the greatest int", -2, x -> x.is(MAX));
        refused(Houses::bare, 20, "-2 if there is none such: an empty BOOK", -2, x -> x.book(0, 0));
        refused(20, "-2 if there is none such: one behind the latest", -2, x -> x.book(x.book(NONE, 0), 0));
        refused(20, "-2 if there is none such: -2", -2, x -> x.book(-2, 0));
        refused(20, "-2 if there is none such: 30", -2, x -> x.book(30, 0));
        refused(20, "-2 if there is none such: the least int", -2, x -> x.book(MIN, 1));
        refused(20, "-2 if there is none such: the greatest int", -2, x -> x.book(MAX, 1));
        refused(Houses::furnished, 20, "-2 for others: what -1", -2, x -> x.book(0, -1));
        refused(Houses::furnished, 20, "-2 for others: what 4", -2, x -> x.book(0, 4));
        refused(Houses::furnished, 20, "-2 for others: what the least int", -2, x -> x.book(0, MIN));
        refused(Houses::furnished, 20, "-2 for others: what the greatest int", -2, x -> x.book(0, MAX));
        refused(49, "-2 for others: -1", -2, x -> x.about(-1));
        refused(49, "-2 for others: 7", -2, x -> x.about(7));
        refused(49, "-2 for others: the least int", -2, x -> x.about(MIN));
        refused(49, "-2 for others: the greatest int", -2, x -> x.about(MAX));
    }

    private static void searched() {
        refused(21, "n EVENINGS (1 .. 40): 0", NONE, x -> x.foretold(0, 0));
        refused(21, "n EVENINGS (1 .. 40): 41", NONE, x -> x.foretold(41, 1));
        refused(21, "n EVENINGS (1 .. 40): -1", NONE, x -> x.foretold(-1, 2));
        refused(21, "n EVENINGS (1 .. 40): the least int", NONE, x -> x.foretold(MIN, 0));
        refused(21, "n EVENINGS (1 .. 40): the greatest int", NONE, x -> x.foretold(MAX, 0));
        refused(21, "NONE for others: what -1", NONE, x -> x.foretold(1, -1));
        refused(21, "NONE for others: what 3", NONE, x -> x.foretold(1, 3));
        refused(21, "NONE for others: what the least int", NONE, x -> x.foretold(1, MIN));
        refused(21, "NONE for others: what the greatest int", NONE, x -> x.foretold(1, MAX));
        refused(22, "-2 for others: -2", -2, x -> x.cue(-2));
        refused(22, "-2 for others: 4", -2, x -> x.cue(4));
        refused(22, "-2 for others: the least int", -2, x -> x.cue(MIN));
        refused(22, "-2 for others: the greatest int", -2, x -> x.cue(MAX));
        refused(23, "NONE for others: i is one more than THE ROW has", NONE, x -> x.run(0, x.about(4) + 1));
        refused(23, "NONE for others: i 12", NONE, x -> x.run(12, 12));
        refused(23, "NONE for others: i -1", NONE, x -> x.run(0, -1));
        refused(23, "NONE for others: i the least int", NONE, x -> x.run(0, MIN));
        refused(23, "NONE for others: i the greatest int", NONE, x -> x.run(0, MAX));
        ofPlaces(23, NONE, (x, s) -> x.run(s, 0));
        ofPlaces(24, -2, (x, s) -> x.shortest(s, 0, NONE));
        ofPlaces(24, -2, (x, s) -> x.shortest(12, s, NONE));
        ofPlaces(24, -2, (x, s) -> x.shortest(s, s, NONE));
        refused(24, "there is none such: i -2", -2, x -> x.shortest(3, 5, -2));
        refused(24, "there is none such: i is one behind the last", -2, x -> x.shortest(3, 5, 2));
        refused(24, "there is none such: i the least int", -2, x -> x.shortest(3, 5, MIN));
        refused(24, "there is none such: i the greatest int", -2, x -> x.shortest(3, 5, MAX));
        refused(24, "there is none such: i 0 of no cues", -2, x -> x.shortest(3, 3, 0));
        refused(24, "there is none such: i 0 of no cues, at THE END", -2, x -> x.shortest(12, 12, 0));
        refused(24, "none: how many", -2, x -> x.shortest(5, 3, NONE));
        refused(24, "none: the i-th", -2, x -> x.shortest(5, 3, 0));
        refused(24, "none: from THE END", -2, x -> x.shortest(12, 11, NONE));
        ofPlaces(25, -2, (x, s) -> x.soonest(s, true));
        ofPlaces(25, -2, (x, s) -> x.soonest(s, false));
        ofPlaces(26, NONE, (x, s) -> x.best(s, true));
        ofPlaces(26, NONE, (x, s) -> x.best(s, false));
    }

    private interface Asked {
        long of(FilmLooksBack x, int s);
    }

    /** SCENES that are asked for from III on are 0 .. 12. */
    private static void ofPlaces(int promise, long due, Asked asked) {
        refused(promise, "SCENES 0 .. 12: -1", due, x -> asked.of(x, -1));
        refused(promise, "SCENES 0 .. 12: 13", due, x -> asked.of(x, 13));
        refused(promise, "SCENES 0 .. 12: the least int", due, x -> asked.of(x, MIN));
        refused(promise, "SCENES 0 .. 12: the greatest int", due, x -> asked.of(x, MAX));
    }

    private static void known() {
        ofPlaces(27, NONE, (x, s) -> x.odds(s, 1, false));
        ofPlaces(27, NONE, (x, s) -> x.odds(s, 1, true));
        refused(27, "n (0 .. 9): -1", NONE, x -> x.odds(0, -1, false));
        refused(27, "n (0 .. 9): -1, the lower one", NONE, x -> x.odds(0, -1, true));
        refused(27, "n (0 .. 9): 10", NONE, x -> x.odds(12, 10, false));
        refused(27, "n (0 .. 9): 10, the lower one", NONE, x -> x.odds(0, 10, true));
        refused(27, "n (0 .. 9): the least int", NONE, x -> x.odds(0, MIN, true));
        refused(27, "n (0 .. 9): the greatest int", NONE, x -> x.odds(0, MAX, true));
        denied(28, "of 10 together: 9", x -> x.weigh(3, 3, 3, 0));
        denied(28, "of 10 together: 11", x -> x.weigh(3, 3, 3, 2));
        denied(28, "of 10 together: 0", x -> x.weigh(0, 0, 0, 0));
        denied(28, "of 10 together: -10", x -> x.weigh(0, 0, 0, -10));
        denied(28, "of 10 together, none below 0: the first", x -> x.weigh(-1, 5, 5, 1));
        denied(28, "of 10 together, none below 0: the second", x -> x.weigh(5, -1, 5, 1));
        denied(28, "of 10 together, none below 0: the third", x -> x.weigh(5, 1, -1, 5));
        denied(28, "of 10 together, none below 0: the last", x -> x.weigh(5, 5, 1, -1));
        denied(28, "of 10 together, more than an int holds", x -> x.weigh(MAX, MAX, 12, 0));
        denied(28, "of 10 together, less than an int holds", x -> x.weigh(MIN, MIN, 10, 0));
        ofPlaces(29, -2, (x, s) -> x.kinds(s == -1 ? -2 : s));
        ofPlaces(30, NONE, (x, s) -> x.parts(s, 0));
        ofPlaces(30, NONE, (x, s) -> x.parts(0, s));
        ofPlaces(31, NONE, (x, s) -> x.round(s));
        refused(31, "of ROUND 0 .. 11: 12", NONE, x -> x.round(12));
        refused(34, "-2 for others: -2", -2, x -> x.look(-2));
        refused(34, "-2 for others: 4", -2, x -> x.look(4));
        refused(34, "-2 for others: the least int", -2, x -> x.look(MIN));
        refused(34, "-2 for others: the greatest int", -2, x -> x.look(MAX));
        ofPlaces(37, NONE, (x, s) -> x.ways(s, 0));
        refused(37, "n 0 .. 12: -1", NONE, x -> x.ways(0, -1));
        refused(37, "n 0 .. 12: 13", NONE, x -> x.ways(12, 13));
        refused(37, "n 0 .. 12: the least int", NONE, x -> x.ways(0, MIN));
        refused(37, "n 0 .. 12: the greatest int", NONE, x -> x.ways(0, MAX));
        denied(38, "PERSONS 0 .. 7: -1", x -> x.likes(-1, 0, 5));
        denied(38, "PERSONS 0 .. 7: 8", x -> x.likes(8, 0, 5));
        denied(38, "PERSONS 0 .. 7: the least int", x -> x.likes(MIN, 0, 5));
        denied(38, "PERSONS 0 .. 7: the greatest int", x -> x.likes(MAX, 0, 5));
        denied(38, "EVENINGS 0 .. 4: -1", x -> x.likes(1, -1, 5));
        denied(38, "EVENINGS 0 .. 4: 5", x -> x.likes(0, 5, 99));
        denied(38, "EVENINGS 0 .. 4: the least int", x -> x.likes(0, MIN, 5));
        denied(38, "EVENINGS 0 .. 4: the greatest int", x -> x.likes(0, MAX, 5));
        denied(38, "LIKES 0 .. 99: -1", x -> x.likes(0, 3, -1));
        denied(38, "LIKES 0 .. 99: 100", x -> x.likes(0, 3, 100));
        denied(38, "LIKES 0 .. 99: the least int", x -> x.likes(0, 3, MIN));
        denied(38, "LIKES 0 .. 99: the greatest int", x -> x.likes(0, 3, MAX));
        rosterAndFelt();
    }

    private static void rosterAndFelt() {
        refused(39, "k (1 .. 8): 0", NONE, x -> x.roster(0, NONE));
        refused(39, "k (1 .. 8): 9", NONE, x -> x.roster(9, NONE));
        refused(39, "k (1 .. 8): -1", NONE, x -> x.roster(-1, NONE));
        refused(39, "k (1 .. 8): the least int", NONE, x -> x.roster(MIN, NONE));
        refused(39, "k (1 .. 8): the greatest int", NONE, x -> x.roster(MAX, NONE));
        refused(39, "a PERSON: -2", NONE, x -> x.roster(2, -2));
        refused(39, "a PERSON: one that is not told yet", NONE, x -> x.roster(2, x.about(0)));
        refused(39, "a PERSON: 7, not told yet", NONE, x -> x.roster(2, 7));
        refused(39, "a PERSON: 8", NONE, x -> x.roster(2, 8));
        refused(39, "a PERSON: the least int", NONE, x -> x.roster(2, MIN));
        refused(39, "a PERSON: the greatest int", NONE, x -> x.roster(2, MAX));
        refused(40, "a PERSON: -2", -2, x -> x.felt(-2, 5));
        refused(40, "a PERSON: one that is not told yet", -2, x -> x.felt(x.about(0), 5));
        refused(40, "a PERSON: 8", -2, x -> x.felt(8, 5));
        refused(40, "a PERSON: the least int", -2, x -> x.felt(MIN, 5));
        refused(40, "a PERSON: the greatest int", -2, x -> x.felt(MAX, 5));
        refused(40, "how much 0 .. 99: -1", -2, x -> x.felt(0, -1));
        refused(40, "how much 0 .. 99: 100", -2, x -> x.felt(0, 100));
        refused(40, "how much 0 .. 99: the least int", -2, x -> x.felt(0, MIN));
        refused(40, "how much 0 .. 99: the greatest int", -2, x -> x.felt(0, MAX));
    }

    private static void full() {
        refused(Houses::full, 4, "NONE if there are 8", NONE, x -> x.person(9, 6));
        refused(Houses::full, 4, "NONE if there are 8, and for others", NONE, x -> x.person(10, 6));
        refused(Houses::full, 5, "NONE, and none come, if there would be more than 300", NONE, x -> x.feed(1, 1, 1, 1, 1));
        refused(Houses.with(Houses::full, x -> x.end(281)), 5, "281 and 20 would be 301", NONE,
                x -> x.feed(1, 1, 1, 1, 1));
        refused(Houses::full, 6, "it has not so many: 301 of 300", NONE, x -> x.end(301));
        refused(Houses::full, 7, "(the tape stays) there are 4", NONE, FilmLooksBack::text);
        refused(Houses.with(Houses::full, x -> Tape.put(x, "oh")), 7, "there are 4: it is not read, for a FAULT either",
                NONE, FilmLooksBack::text);
        refused(Houses.with(Houses::full, x -> x.end(0)), 7, "there are 4: an empty tape either", NONE,
                FilmLooksBack::text);
        deniedIn(Houses::full, 9, "TEXTS 0 .. 3: 4", x -> x.by(4));
        deniedIn(Houses::full, 10, "PERSONS 0 .. 7: 8", x -> x.seat(8, 1));
        refused(Houses::full, 14, "TEXTS 0 .. 3: 4", -2, x -> x.played(4));
        refused(Houses::full, 17, "PERSONS 0 .. 7: 8", NONE, x -> x.of(8, 0));
        refused(Houses::full, 20, "the latest 30: the 31st", -2, x -> x.book(30, 0));
        refused(Houses::full, 22, "-2 if it has 12", -2, x -> x.cue(0));
        refused(Houses::full, 23, "behind the first i cues: 13 of 12", NONE, x -> x.run(0, 13));
        refused(Houses::full, 39, "there are too many of them: 8 on 5 EVENINGS", NONE, x -> x.roster(1, NONE));
        refused(Houses::full, 39, "there are too many of them: of a PERSON", NONE, x -> x.roster(1, 0));
        refused(Houses::full, 39, "PERSONS 0 .. 7: 8", NONE, x -> x.roster(2, 8));
        refused(Houses::full, 40, "-2 if there are 8", -2, x -> x.felt(0, 0));
        refused(Houses::full, 40, "PERSONS 0 .. 7: 8", -2, x -> x.felt(8, 0));
    }

    private static void lastDay() {
        Supplier<FilmLooksBack> last = () -> Houses.onDay(9999);
        refused(last, 13, "beyond 9999 (nothing is done then): one", NONE, x -> x.evening(1));
        refused(last, 13, "beyond 9999 (nothing is done then): forty", NONE, x -> x.evening(40));
        refused(() -> Houses.onDay(9998), 13, "beyond 9999 (nothing is done then): two where one can be", NONE,
                x -> x.evening(2));
        refused(() -> Houses.onDay(9960), 13, "beyond 9999 (nothing is done then): 40 where 39 can be", NONE,
                x -> x.evening(40));
        refused(last, 14, "one that can't be ends it: none of so many EVENINGS can be", 0, x -> x.played(0));
        for (int what = 0; what < 3; what++) {
            int asked = what;
            refused(last, 21, "those that can be; 0: there is none: what " + what, 0, x -> x.foretold(40, asked));
        }
    }

    /** All that follows from III on changes nothing but THE ROW, ODDS of cues and what the SEVENTH ROW knows. */
    private static void asking() {
        String nothing = "All that follows changes nothing";
        for (Supplier<FilmLooksBack> house : List.<Supplier<FilmLooksBack>>of(Houses::furnished, Houses::full)) {
            FilmLooksBack y = house.get();
            long[] due = {y.foretold(40, 0), y.shortest(0, 12, 0), y.soonest(0, true), y.best(0, false),
                y.odds(8, 9, true), y.parts(8, 9), y.round(9), y.ways(8, 12), y.roster(2, 0), y.whose()};
            refused(house, 21, nothing, due[0], x -> x.foretold(40, 0));
            refused(house, 24, nothing, due[1], x -> x.shortest(0, 12, 0));
            refused(house, 25, nothing, due[2], x -> x.soonest(0, true));
            refused(house, 26, nothing, due[3], x -> x.best(0, false));
            refused(house, 27, nothing, due[4], x -> x.odds(8, 9, true));
            refused(house, 30, nothing, due[5], x -> x.parts(8, 9));
            refused(house, 31, nothing, due[6], x -> x.round(9));
            refused(house, 37, nothing, due[7], x -> x.ways(8, 12));
            refused(house, 39, nothing, due[8], x -> x.roster(2, 0));
            refused(house, 41, nothing, due[9], FilmLooksBack::whose);
        }
        refused(Houses.with(Houses::furnished, x -> x.cue(NONE)), 22, "THE ROW alone: it is empty again", 0, x -> {
            x.cue(1);
            return x.cue(NONE);
        });
        refused(Houses.with(Houses::furnished, x -> x.weigh(1, 2, 3, 4)), 28, "ODDS of cues alone: as told again", 1,
                x -> {
                    x.weigh(0, 0, 0, 10);
                    return x.weigh(1, 2, 3, 4) ? 1 : 0;
                });
        refused(Houses.with(Houses::furnished, x -> x.look(NONE)), 34, "what the SEVENTH ROW knows alone: anew", 4095,
                x -> {
                    x.look(0);
                    return x.look(NONE);
                });
    }
}
