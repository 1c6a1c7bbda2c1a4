import java.util.ArrayList;
import java.util.List;
import java.util.function.Consumer;
import java.util.function.Supplier;

/** Houses in which much was told and done, and all that can be seen of one. */
final class Houses {
    private static final int NONE = FilmLooksBack.NONE;

    private Houses() {
    }

    static FilmLooksBack bare() {
        return new FilmLooksBack();
    }

    /** Something of everything: 3 PERSONS, 2 TEXTS, 2 cues, 1 FELT, 20 bytes, STEPS, a BOOK, an IMAGE, a FAULT. */
    static FilmLooksBack furnished() {
        FilmLooksBack x = new FilmLooksBack();
        x.person(5, 3);
        x.person(2, 7);
        x.person(9, 6);
        oneCueEach(x);
        x.scene(0, 1, 4);
        x.scene(0, 2, 5);
        x.scene(0, 3, 6);
        x.scene(2, 1, 0);
        x.scene(1, 3, 12);
        x.kind(2, 1);
        x.kind(0, 3);
        Tape.read(x, "cues (draw+shown)%4;gladdens who+long;");
        Tape.read(x, "stays 0;mend 3;evening 2;");
        Tape.read(x, "mend 0;oh");
        x.by(0);
        x.call(2, 1);
        x.evening(2);
        x.cue(1);
        x.cue(3);
        x.weigh(4, 3, 2, 1);
        x.look(3);
        x.likes(0, 3, 7);
        x.likes(1, 3, 9);
        x.felt(0, 1);
        x.image();
        x.seat(1, 4);
        x.years(3, 2);
        x.call(2, 1);
        x.feed(0x6d656e64, 0x20303b20, 0x20202020, 0x20202020, 0x20202020);
        return x;
    }

    /** As much of everything as there can be, but DAY; each EVENING has a CHANGE. */
    static FilmLooksBack full() {
        FilmLooksBack x = new FilmLooksBack();
        oneCueEach(x);
        x.scene(0, 1, 5);
        x.scene(0, 2, 6);
        for (int p = 0; p < 8; p++) {
            x.person(9, 6);
            x.likes(p, 4, 10 + p);
        }
        for (int p = 7; p >= 0; p--) {
            x.felt(p, 9);
        }
        Tape.rule(x, "cues if scene=0 then 1+day%2 else 0 end;stays 1;");
        for (int i = 0; i < 3; i++) {
            Tape.read(x, "");
        }
        for (int i = 0; i < 12; i++) {
            x.cue(3);
        }
        for (int i = 0; i < 15; i++) {
            x.feed(0x20202020, 0x20202020, 0x20202020, 0x20202020, 0x20202020);
        }
        x.evening(40);
        return x;
    }

    /** DAY is this, by EVENINGS in a new house; TEXT 0 is so many of them. */
    static FilmLooksBack onDay(int day) {
        return onDay(new FilmLooksBack(), day);
    }

    static FilmLooksBack onDay(FilmLooksBack x, int day) {
        Tape.read(x, "evening 40;".repeat(24));
        for (int i = 0; i < 10 && x.is(0) + 960 <= day; i++) {
            x.played(0);
        }
        for (int i = 0; i < 24 && x.is(0) < day; i++) {
            x.evening(Math.min(40, day - x.is(0)));
        }
        return x;
    }

    static Supplier<FilmLooksBack> with(Supplier<FilmLooksBack> house, Consumer<FilmLooksBack> done) {
        return () -> {
            FilmLooksBack x = house.get();
            done.accept(x);
            return x;
        };
    }

    /** From each of SCENES 8 .. 11 THE END comes by one cue alone: so ODDS tell the weight of each cue. */
    private static void oneCueEach(FilmLooksBack x) {
        for (int s = 8; s < 12; s++) {
            for (int c = 0; c < 4; c++) {
                x.scene(s, c, c == s - 8 ? 12 : s);
            }
        }
    }

    /** By each cue. */
    static void leadAlways(FilmLooksBack x, int s, int next) {
        for (int c = 0; c < 4; c++) {
            x.scene(s, c, next);
        }
    }

    static int anew(int x) {
        return (x * 443 + 331) % 30577;
    }

    /** By YEARS that do nothing else (while nothing can be mended), X is such that these are the next draws. */
    static void drawing(FilmLooksBack x, int... draws) {
        for (int seed = 0; seed < 10000; seed++) {
            int first = seed * 2 + 199;
            int at = anew(first);
            boolean right = first % 5 == 2;
            for (int i = 0; i < draws.length && right; i++) {
                right = at % 10 == draws[i];
                at = anew(at);
            }
            if (right) {
                x.years(seed, 1);
                return;
            }
        }
        throw new IllegalArgumentException("no SEED draws so");
    }

    /** All that can be seen; at last the tape is read, a STEP is taken back, and THE IMAGE comes back. */
    static List<Long> all(FilmLooksBack x) {
        List<Long> seen = new ArrayList<>();
        asItIs(x, seen);
        asFound(x, seen);
        seen.add((long) x.text());
        addFault(x, seen);
        seen.add((long) x.undo());
        addChangeable(x, seen);
        seen.add((long) x.back());
        addChangeable(x, seen);
        return seen;
    }

    private static void asItIs(FilmLooksBack x, List<Long> seen) {
        addFault(x, seen);
        addChangeable(x, seen);
        for (int s = 0; s < 12; s++) {
            for (int what = 0; what < 8; what++) {
                seen.add((long) x.ofScene(s, what));
            }
        }
        for (int p = 0; p < x.about(0); p++) {
            for (int what = 0; what < 4; what++) {
                seen.add((long) x.of(p, what));
            }
        }
        int evenings = x.book(NONE, 0);
        seen.add((long) evenings);
        for (int i = 0; i < evenings; i++) {
            for (int what = 1; what < 4; what++) {
                seen.add((long) x.book(i, what));
            }
        }
    }

    private static void asFound(FilmLooksBack x, List<Long> seen) {
        for (int i = 0; i <= x.about(4); i++) {
            seen.add((long) x.run(0, i));
        }
        for (int s = 8; s < 12; s++) {
            seen.add(x.odds(s, 1, false));
            seen.add(x.odds(s, 1, true));
        }
        int[] found = {x.kinds(NONE), x.whose(), x.gladdest(), x.often(), x.front(), x.ledger(true), x.ledger(false),
            x.dead(), x.far(), x.roster(8, NONE), x.roster(1, NONE), x.sure(), x.tells()};
        for (int f : found) {
            seen.add((long) f);
        }
    }

    private static void addFault(FilmLooksBack x, List<Long> seen) {
        seen.add((long) x.fault(0));
        seen.add((long) x.fault(1));
    }

    private static void addChangeable(FilmLooksBack x, List<Long> seen) {
        for (int what = 0; what < 7; what++) {
            seen.add((long) x.about(what));
        }
        for (int what = 0; what < 4; what++) {
            seen.add((long) x.is(what));
        }
        seen.add((long) x.changed());
    }
}
