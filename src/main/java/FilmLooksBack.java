/**
 * A picture house whose film looks back. What each method must answer is said in DOC.md, promise by
 * promise; the words in capitals there are the words used here.
 */
public final class FilmLooksBack {
    public static final int NONE = -1;

    /** What the document answers where NONE already means something else. */
    private static final int OTHER = -2;

    private static final int SCENES = 12;
    private static final int THE_END = 12;
    /** The SCENES and THE END. */
    private static final int PLACES = 13;
    private static final int ALL_SCENES = (1 << SCENES) - 1;
    private static final int CUES = 4;
    private static final int KINDS = 4;
    private static final int PERSONS = 8;
    private static final int FRONT_ROW = 1;
    private static final int LAST_SEEN_ROW = 6;
    /** Rows and PLAIN are single digits. */
    private static final int DIGIT = 9;
    private static final int GLADDEST = 99;
    private static final int MOST = 9999;
    private static final int LONGEST = 30;
    private static final int AT_ONCE = 40;
    private static final int BOOK = 30;
    private static final int STEPS = 30;
    private static final int TEXTS = 4;
    private static final int TAPE = 300;
    private static final int FED = 20;
    private static final int ROW_CUES = 12;
    private static final int ODDS_CUES = 9;
    private static final int ODDS_WHOLE = 10;
    private static final int EVENINGS = 5;
    private static final int FELT = 8;

    /** What a STEP takes back stands in one array, so that it is kept and restored by one copy. */
    private static final int ROW_OF = 0;
    private static final int GLAD_OF = 8;
    private static final int LEADS = 16;
    private static final int SHOWN = 28;
    private static final int ENDED = 40;
    private static final int DAY = 41;
    private static final int DRAWN = 42;
    private static final int BOOK_LONG = 43;
    private static final int BOOK_ENDED = 73;
    private static final int BOOK_CHANGES = 103;
    private static final int NOW = 133;

    /** Words of TEXTS, each with a blank behind it; a word's number is its place here. */
    private static final String WORDS =
            "cues stays gladdens kind person seat call mend evening by to of in kinds if then else end not and or day seen plain scene shown draw cue next who glad row long ";
    private static final int W_CUES = 0;
    private static final int W_STAYS = 1;
    private static final int W_GLADDENS = 2;
    private static final int W_KIND = 3;
    private static final int W_PERSON = 4;
    private static final int W_SEAT = 5;
    private static final int W_CALL = 6;
    private static final int W_MEND = 7;
    private static final int W_EVENING = 8;
    private static final int W_BY = 9;
    private static final int W_TO = 10;
    private static final int W_OF = 11;
    private static final int W_IN = 12;
    private static final int W_KINDS = 13;
    private static final int W_IF = 14;
    private static final int W_THEN = 15;
    private static final int W_ELSE = 16;
    private static final int W_END = 17;
    private static final int W_NOT = 18;
    private static final int W_AND = 19;
    private static final int W_OR = 20;
    private static final int W_DAY = 21;
    private static final int W_SEEN = 22;
    private static final int W_PLAIN = 23;
    private static final int W_SCENE = 24;
    private static final int W_SHOWN = 25;
    private static final int W_DRAW = 26;
    private static final int W_CUE = 27;
    private static final int W_NEXT = 28;
    private static final int W_WHO = 29;
    private static final int W_GLAD = 30;
    private static final int W_ROW = 31;
    private static final int W_LONG = 32;
    private static final int WORD_COUNT = 33;

    /** By the NAMES day .. long: the laws it may stand in, a bit each (1 cues, 2 stays, 4 gladdens). */
    private static final int[] NAME_LAWS = {7, 7, 7, 3, 1, 1, 2, 2, 4, 4, 4, 4};

    /** TOKENS that are no words. Those of two signs come behind those of one. */
    private static final int NUMBER = 40;
    private static final int FINISH = 41;
    private static final int NO_TOKEN = 42;
    private static final String SIGNS = "<>=#+-*/%();";
    private static final int LESS = 50;
    private static final int MORE = 51;
    private static final int LIKE = 52;
    private static final int UNLIKE = 53;
    private static final int PLUS = 54;
    private static final int MINUS = 55;
    private static final int TIMES = 56;
    private static final int OVER = 57;
    private static final int REST = 58;
    private static final int OPEN = 59;
    private static final int CLOSE = 60;
    private static final int STOP = 61;
    private static final int AT_MOST = 62;
    private static final int AT_LEAST = 63;

    /** Laws are kept as orders to a stack, numbered like their TOKENS; these have no TOKEN of their own. */
    private static final int NEGATE = 70;
    private static final int JUMP = 71;
    private static final int JUMP_UNLESS = 72;

    private static final int CLAUSES = 24;
    private static final int CLAUSE_NUMBERS = 3;
    private static final int LAWS = 3;
    private static final int OPENED = 8;
    private static final int SUM_LIMIT = 1000000;

    private static final int FAULT_TOKEN = 1;
    private static final int FAULT_NUMBER = 2;
    private static final int FAULT_OPENED = 3;
    private static final int FAULT_AGAIN = 4;
    private static final int FAULT_NAME = 5;
    private static final int FAULT_CLAUSES = 6;

    /** More cues than any way or play can take. */
    private static final int NEVER = 1000;

    private final Film film = new Film();
    private final Film imaged = new Film();
    private final Reader reader = new Reader();
    private final Law law = new Law(film);
    private final House house = new House(film, law);
    private final Chart chart = new Chart(film);
    private final Seventh seventh = new Seventh(film);
    private final Roster rosters = new Roster(film);

    public FilmLooksBack() {
    }

    public boolean scene(int s, int cue, int next) {
        if (!isScene(s) || !isCue(cue) || !isPlace(next)) {
            return false;
        }
        film.tellNext(s, cue, next);
        return true;
    }

    public boolean kind(int s, int kind) {
        if (!isScene(s) || !within(kind, 0, KINDS - 1)) {
            return false;
        }
        film.kindOf[s] = kind;
        return true;
    }

    public int person(int plain, int row) {
        if (!isDigit(plain) || !isDigit(row)) {
            return NONE;
        }
        return film.tellPerson(plain, row);
    }

    public int feed(int a, int b, int c, int d, int e) {
        if (reader.length > TAPE - FED) {
            return NONE;
        }
        reader.take(a);
        reader.take(b);
        reader.take(c);
        reader.take(d);
        reader.take(e);
        return reader.length;
    }

    public int end(int n) {
        if (!within(n, 0, reader.length)) {
            return NONE;
        }
        reader.length = n;
        return n;
    }

    public int text() {
        if (film.texts >= TEXTS || !reader.read()) {
            return NONE;
        }
        law.textOf(film.texts).copy(reader.made);
        film.texts++;
        return film.texts - 1;
    }

    public int fault(int what) {
        if (what == 0) {
            return reader.fault;
        }
        return what == 1 ? reader.place : NONE;
    }

    public boolean by(int text) {
        if (text != NONE && !film.isText(text)) {
            return false;
        }
        film.ruling = text;
        return true;
    }

    public boolean seat(int person, int row) {
        return film.isPerson(person) && isDigit(row) && house.canSeat(person, row) && house.seatStep(person, row);
    }

    public boolean call(int s, int cue) {
        return isScene(s) && within(cue, 1, CUES - 1) && house.canCall(s, cue) && house.callStep(s, cue);
    }

    public boolean mend(int s) {
        return isScene(s) && house.canMend(s) && house.mendStep(s);
    }

    public int evening(int n) {
        if (!within(n, 1, AT_ONCE) || house.possible(n) < n) {
            return NONE;
        }
        return house.holdEvenings(n);
    }

    public int played(int text) {
        if (!film.isText(text)) {
            return OTHER;
        }
        Text played = law.textOf(text);
        for (int i = 0; i < played.clauses; i++) {
            if (!house.perform(played.heads[i], played.numberOf(i, 0), played.numberOf(i, 1), played.numberOf(i, 2))) {
                return i;
            }
        }
        return NONE;
    }

    public int years(int seed, int n) {
        if (!within(seed, 0, MOST) || !within(n, 1, AT_ONCE)) {
            return NONE;
        }
        house.passYears(seed, n);
        return film.now[DAY];
    }

    public int undo() {
        return film.stepCount == 0 ? NONE : film.takeBack();
    }

    public int of(int person, int what) {
        if (!film.isPerson(person)) {
            return NONE;
        }
        switch (what) {
            case 0:
                return film.plainOf[person];
            case 1:
                return film.now[ROW_OF + person];
            case 2:
                return film.now[GLAD_OF + person];
            case 3:
                law.lookAround();
                return law.gladdensSaid(film.ruling, person, 1);
            default:
                return NONE;
        }
    }

    public int ofScene(int s, int what) {
        if (!isScene(s)) {
            return NONE;
        }
        if (isCue(what)) {
            return film.after(s, what);
        }
        switch (what) {
            case 4:
                return film.told[s * CUES];
            case 5:
                return film.kindOf[s];
            case 6:
                return film.now[SHOWN + s];
            case 7:
                law.lookAround();
                return law.cueSaid(s, film.now[SHOWN + s], 0);
            default:
                return NONE;
        }
    }

    public int is(int what) {
        switch (what) {
            case 0:
                return film.now[DAY];
            case 1:
                return film.now[DRAWN];
            case 2:
                return film.seenBits();
            case 3:
                return film.now[ENDED];
            default:
                return OTHER;
        }
    }

    public int book(int i, int what) {
        int written = film.written();
        if (i == NONE) {
            return written;
        }
        if (!within(i, 0, written - 1)) {
            return OTHER;
        }
        int day = film.now[DAY] - written + i;
        switch (what) {
            case 0:
                return day;
            case 1:
                return film.now[BOOK_LONG + day % BOOK];
            case 2:
                return film.now[BOOK_ENDED + day % BOOK];
            case 3:
                return film.now[BOOK_CHANGES + day % BOOK];
            default:
                return OTHER;
        }
    }

    public int foretold(int n, int what) {
        if (!within(n, 1, AT_ONCE) || !within(what, 0, 2)) {
            return NONE;
        }
        return house.foretell(n, what);
    }

    public int cue(int c) {
        if (c == NONE) {
            film.rowLength = 0;
            return 0;
        }
        if (!isCue(c) || film.rowLength >= ROW_CUES) {
            return OTHER;
        }
        film.row[film.rowLength] = c;
        film.rowLength++;
        return film.rowLength;
    }

    public int run(int s, int i) {
        if (!isPlace(s) || !within(i, 0, film.rowLength)) {
            return NONE;
        }
        int at = s;
        for (int k = 0; k < i; k++) {
            at = film.after(at, film.row[k]);
        }
        return at;
    }

    public int shortest(int from, int to, int i) {
        return isPlace(from) && isPlace(to) ? chart.shortestWay(from, to, i) : OTHER;
    }

    public int soonest(int s, boolean first) {
        return isPlace(s) ? chart.playLength(s, first) : OTHER;
    }

    public int best(int s, boolean first) {
        return isPlace(s) ? chart.playCue(s, first) : NONE;
    }

    public long odds(int s, int n, boolean low) {
        return isPlace(s) && within(n, 0, ODDS_CUES) ? chart.oddsWithin(s, n, low) : NONE;
    }

    public boolean weigh(int a, int b, int c, int d) {
        boolean each = within(a, 0, ODDS_WHOLE) && within(b, 0, ODDS_WHOLE)
                && within(c, 0, ODDS_WHOLE) && within(d, 0, ODDS_WHOLE);
        if (!each || a + b + c + d != ODDS_WHOLE) {
            return false;
        }
        film.odds[0] = a;
        film.odds[1] = b;
        film.odds[2] = c;
        film.odds[3] = d;
        return true;
    }

    public int kinds(int what) {
        if (what == NONE) {
            return chart.sortAll();
        }
        if (!isPlace(what)) {
            return OTHER;
        }
        chart.sortAll();
        return chart.sorts[what];
    }

    public int parts(int a, int b) {
        return isPlace(a) && isPlace(b) ? chart.parted(a, b) : NONE;
    }

    public int round(int s) {
        if (!isScene(s)) {
            return NONE;
        }
        return chart.comesAgain(s) ? 1 : 0;
    }

    public int dead() {
        return chart.deadBits();
    }

    public int far() {
        return chart.farthest();
    }

    public int look(int kind) {
        if (kind == NONE) {
            film.seventh = ALL_SCENES;
            return film.seventh;
        }
        return within(kind, 0, KINDS - 1) ? seventh.watch(kind) : OTHER;
    }

    public int sure() {
        return seventh.onlyScene();
    }

    public int tells() {
        return seventh.tellingCue();
    }

    public long ways(int s, int n) {
        return isPlace(s) && within(n, 0, ROW_CUES) ? chart.waysJust(s, n) : NONE;
    }

    public boolean likes(int person, int e, int likes) {
        if (!within(person, 0, PERSONS - 1) || !within(e, 0, EVENINGS - 1) || !within(likes, 0, GLADDEST)) {
            return false;
        }
        film.likes[person * EVENINGS + e] = likes;
        return true;
    }

    public int roster(int k, int person) {
        if (!within(k, 1, PERSONS) || film.persons > k * EVENINGS) {
            return NONE;
        }
        if (person != NONE && !film.isPerson(person)) {
            return NONE;
        }
        rosters.assign(k);
        return person == NONE ? rosters.likesTogether() : rosters.eveningOf[person];
    }

    public int felt(int person, int glad) {
        if (person == NONE) {
            film.feltCount = 0;
            return 0;
        }
        if (!film.isPerson(person) || !within(glad, 0, GLADDEST) || film.feltCount >= FELT) {
            return OTHER;
        }
        film.feltWho[film.feltCount] = person;
        film.feltGlad[film.feltCount] = glad;
        film.feltCount++;
        return film.feltCount;
    }

    public int whose() {
        law.lookAround();
        int bits = 0;
        for (int text = 0; text < film.texts; text++) {
            if (law.explains(text)) {
                bits |= 1 << text;
            }
        }
        return bits;
    }

    public int gladdest() {
        int found = NONE;
        for (int p = 0; p < film.persons; p++) {
            if (found == NONE || film.now[GLAD_OF + p] > film.now[GLAD_OF + found]) {
                found = p;
            }
        }
        return found;
    }

    public int often() {
        int found = 0;
        for (int s = 1; s < SCENES; s++) {
            if (film.now[SHOWN + s] > film.now[SHOWN + found]) {
                found = s;
            }
        }
        return found;
    }

    public int changed() {
        int bits = 0;
        for (int s = 0; s < SCENES; s++) {
            if (house.canMend(s)) {
                bits |= 1 << s;
            }
        }
        return bits;
    }

    public int front() {
        return film.plainTogether();
    }

    public int ledger(boolean ended) {
        int written = film.written();
        int endings = 0;
        for (int i = 0; i < written; i++) {
            endings += film.now[BOOK_ENDED + i];
        }
        return ended ? endings : written - endings;
    }

    public int image() {
        imaged.copy(film);
        return film.now[DAY];
    }

    public int back() {
        film.copy(imaged);
        return film.now[DAY];
    }

    public int about(int what) {
        switch (what) {
            case 0:
                return film.persons;
            case 1:
                return film.texts;
            case 2:
                return film.ruling;
            case 3:
                return film.stepCount;
            case 4:
                return film.rowLength;
            case 5:
                return film.feltCount;
            case 6:
                return reader.length;
            default:
                return OTHER;
        }
    }

    private static boolean within(int n, int low, int high) {
        return n >= low && n <= high;
    }

    private static boolean isScene(int s) {
        return within(s, 0, SCENES - 1);
    }

    private static boolean isPlace(int s) {
        return within(s, 0, THE_END);
    }

    private static boolean isCue(int c) {
        return within(c, 0, CUES - 1);
    }

    private static boolean isDigit(int n) {
        return within(n, 0, DIGIT);
    }

    /** All that THE IMAGE keeps; the texts themselves never change, so that their count is enough. */
    private static final class Film {
        final int[] now = new int[NOW];
        final int[] steps = new int[STEPS * NOW];
        int eldestStep;
        int stepCount;
        /** NEXT as it was told, by each cue; by cue 0 it is now what LEADS says. */
        final int[] told = new int[SCENES * CUES];
        final int[] kindOf = new int[SCENES];
        final int[] plainOf = new int[PERSONS];
        int persons;
        int texts;
        int ruling = NONE;
        final int[] row = new int[ROW_CUES];
        int rowLength;
        final int[] odds = {7, 1, 1, 1};
        int seventh = ALL_SCENES;
        final int[] likes = new int[PERSONS * EVENINGS];
        final int[] feltWho = new int[FELT];
        final int[] feltGlad = new int[FELT];
        int feltCount;

        Film() {
            now[DRAWN] = 199;
            for (int s = 0; s < SCENES; s++) {
                now[LEADS + s] = s + 1;
                for (int c = 0; c < CUES; c++) {
                    told[s * CUES + c] = s + 1;
                }
            }
        }

        void copy(Film other) {
            System.arraycopy(other.now, 0, now, 0, NOW);
            System.arraycopy(other.steps, 0, steps, 0, STEPS * NOW);
            eldestStep = other.eldestStep;
            stepCount = other.stepCount;
            System.arraycopy(other.told, 0, told, 0, SCENES * CUES);
            System.arraycopy(other.kindOf, 0, kindOf, 0, SCENES);
            System.arraycopy(other.plainOf, 0, plainOf, 0, PERSONS);
            persons = other.persons;
            texts = other.texts;
            ruling = other.ruling;
            System.arraycopy(other.row, 0, row, 0, ROW_CUES);
            rowLength = other.rowLength;
            System.arraycopy(other.odds, 0, odds, 0, CUES);
            seventh = other.seventh;
            System.arraycopy(other.likes, 0, likes, 0, PERSONS * EVENINGS);
            System.arraycopy(other.feltWho, 0, feltWho, 0, FELT);
            System.arraycopy(other.feltGlad, 0, feltGlad, 0, FELT);
            feltCount = other.feltCount;
        }

        boolean isPerson(int p) {
            return p >= 0 && p < persons && p < PERSONS;
        }

        boolean isText(int t) {
            return t >= 0 && t < texts;
        }

        int after(int s, int cue) {
            if (!isScene(s) || !isCue(cue)) {
                return THE_END;
            }
            return cue == 0 ? now[LEADS + s] : told[s * CUES + cue];
        }

        void tellNext(int s, int cue, int next) {
            told[s * CUES + cue] = next;
            if (cue == 0) {
                tellNow(LEADS + s, next);
            }
        }

        int tellPerson(int plain, int row) {
            if (persons >= PERSONS) {
                return NONE;
            }
            int person = persons;
            persons++;
            plainOf[person] = plain;
            tellNow(ROW_OF + person, row);
            tellNow(GLAD_OF + person, 0);
            return person;
        }

        /** What is told stays told when earlier STEPS are taken back: so it is told to each of them. */
        private void tellNow(int place, int value) {
            now[place] = value;
            for (int step = 0; step < STEPS; step++) {
                steps[step * NOW + place] = value;
            }
        }

        void keepStep() {
            int slot = (eldestStep + stepCount) % STEPS;
            System.arraycopy(now, 0, steps, slot * NOW, NOW);
            if (stepCount < STEPS) {
                stepCount++;
            } else {
                eldestStep = (eldestStep + 1) % STEPS;
            }
        }

        int takeBack() {
            stepCount--;
            int slot = (eldestStep + stepCount) % STEPS;
            System.arraycopy(steps, slot * NOW, now, 0, NOW);
            return stepCount;
        }

        boolean isSeen(int p) {
            return within(now[ROW_OF + p], FRONT_ROW, LAST_SEEN_ROW);
        }

        int seenBits() {
            int bits = 0;
            for (int p = 0; p < persons; p++) {
                if (isSeen(p)) {
                    bits |= 1 << p;
                }
            }
            return bits;
        }

        int plainTogether() {
            int sum = 0;
            for (int p = 0; p < persons; p++) {
                if (isSeen(p)) {
                    sum += plainOf[p];
                }
            }
            return sum;
        }

        /** Each EVENING makes one more DAY: DAY tells how many were ever written into BOOK. */
        int written() {
            return Math.min(BOOK, now[DAY]);
        }
    }

    /** A TEXT that was read: its laws as orders to a stack, its CLAUSES with their numbers. */
    private static final class Text {
        final int[] code = new int[TAPE];
        int size;
        /** Where in code each law begins and ends; both 0 without it. */
        final int[] from = new int[LAWS];
        final int[] to = new int[LAWS];
        final int[] heads = new int[CLAUSES];
        final int[] numbers = new int[CLAUSES * CLAUSE_NUMBERS];
        int clauses;
        private int filled;

        void empty() {
            size = 0;
            clauses = 0;
            for (int law = 0; law < LAWS; law++) {
                from[law] = 0;
                to[law] = 0;
            }
        }

        void copy(Text other) {
            System.arraycopy(other.code, 0, code, 0, TAPE);
            size = other.size;
            System.arraycopy(other.from, 0, from, 0, LAWS);
            System.arraycopy(other.to, 0, to, 0, LAWS);
            System.arraycopy(other.heads, 0, heads, 0, CLAUSES);
            System.arraycopy(other.numbers, 0, numbers, 0, CLAUSES * CLAUSE_NUMBERS);
            clauses = other.clauses;
        }

        boolean has(int law) {
            return to[law] > from[law];
        }

        void begin(int head) {
            if (clauses < CLAUSES) {
                heads[clauses] = head;
                clauses++;
                filled = 0;
            }
        }

        void addNumber(int n) {
            if (clauses > 0 && filled < CLAUSE_NUMBERS) {
                numbers[(clauses - 1) * CLAUSE_NUMBERS + filled] = n;
                filled++;
            }
        }

        int numberOf(int clause, int i) {
            return numbers[clause * CLAUSE_NUMBERS + i];
        }

        /** Each TOKEN puts one order at most, so that code is never full before the TEXT ends. */
        void put(int order, int with) {
            if (size < TAPE) {
                code[size] = order << 16 | with;
                size++;
            }
        }

        void aimHere(int jump) {
            if (jump >= 0 && jump < TAPE) {
                code[jump] = code[jump] & ~0xFFFF | size;
            }
        }
    }

    /** The tape, and how a TEXT is read from it: TOKEN by TOKEN, until the first FAULT. */
    private static final class Reader {
        final Text made = new Text();
        final int[] tape = new int[TAPE];
        int length;
        int fault = NONE;
        int place = NONE;
        private int at;
        private int first;
        private int token;
        private int number;
        private int law;

        void take(int four) {
            for (int shift = 24; shift >= 0 && length < TAPE; shift -= 8) {
                tape[length] = four >> shift & 255;
                length++;
            }
        }

        boolean read() {
            made.empty();
            fault = 0;
            place = NONE;
            at = 0;
            advance();
            boolean right = true;
            for (int i = 0; i <= CLAUSES && right && token != FINISH; i++) {
                right = readClause();
            }
            length = 0;
            return right;
        }

        private boolean wrong(int what) {
            fault = what;
            place = first;
            return false;
        }

        private void advance() {
            while (at < length && (tape[at] == ' ' || tape[at] == '\n')) {
                at++;
            }
            first = at;
            if (at >= length) {
                token = FINISH;
            } else if (isLetter(tape[at])) {
                scanWord();
            } else if (isNumeral(tape[at])) {
                scanNumber();
            } else {
                scanSign();
            }
        }

        private static boolean isLetter(int sign) {
            return sign >= 'a' && sign <= 'z' || sign >= 'A' && sign <= 'Z';
        }

        private static boolean isNumeral(int sign) {
            return sign >= '0' && sign <= '9';
        }

        private void scanWord() {
            while (at < length && isLetter(tape[at])) {
                at++;
            }
            token = NO_TOKEN;
            int word = 0;
            int same = first;
            for (int i = 0; i < WORDS.length() && token == NO_TOKEN; i++) {
                char sign = WORDS.charAt(i);
                if (sign == ' ') {
                    token = same == at ? word : NO_TOKEN;
                    word++;
                    same = first;
                } else {
                    same = same >= first && same < at && tape[same] == sign ? same + 1 : NONE;
                }
            }
        }

        private void scanNumber() {
            token = NUMBER;
            number = 0;
            while (at < length && isNumeral(tape[at])) {
                number = Math.min(MOST + 1, number * 10 + tape[at] - '0');
                at++;
            }
        }

        private void scanSign() {
            int sign = SIGNS.indexOf((char) tape[at]);
            token = sign < 0 ? NO_TOKEN : LESS + sign;
            at++;
            if (at < length && tape[at] == '=' && (token == LESS || token == MORE)) {
                token = token == LESS ? AT_MOST : AT_LEAST;
                at++;
            }
        }

        private boolean pass(int wanted) {
            if (token != wanted) {
                return wrong(FAULT_TOKEN);
            }
            advance();
            return true;
        }

        private boolean readClause() {
            int head = token;
            boolean isLaw = within(head, W_CUES, W_GLADDENS);
            if (!isLaw && head != W_SCENE && !within(head, W_KIND, W_EVENING)) {
                return wrong(FAULT_TOKEN);
            }
            if (isLaw && made.has(head)) {
                return wrong(FAULT_AGAIN);
            }
            if (made.clauses >= CLAUSES) {
                return wrong(FAULT_CLAUSES);
            }
            made.begin(head);
            advance();
            if (!isLaw) {
                return readOrder(head) && pass(STOP);
            }
            law = head;
            made.from[law] = made.size;
            boolean right = readSum(0);
            made.to[law] = made.size;
            return right && pass(STOP);
        }

        private boolean readOrder(int head) {
            switch (head) {
                case W_SCENE:
                    return readNumber(0, SCENES - 1) && pass(W_BY) && readNumber(0, CUES - 1)
                            && pass(W_TO) && readNumber(0, THE_END);
                case W_KIND:
                    return readNumber(0, KINDS - 1) && pass(W_OF) && readNumber(0, SCENES - 1);
                case W_PERSON:
                    return readNumber(0, DIGIT) && pass(W_ROW) && readNumber(0, DIGIT);
                case W_SEAT:
                    return readNumber(0, PERSONS - 1) && pass(W_IN) && readNumber(0, DIGIT);
                case W_CALL:
                    return readNumber(0, SCENES - 1) && pass(W_BY) && readNumber(1, CUES - 1);
                case W_MEND:
                    return readNumber(0, SCENES - 1);
                default:
                    return readNumber(1, AT_ONCE);
            }
        }

        private boolean readNumber(int low, int high) {
            if (token != NUMBER) {
                return wrong(FAULT_TOKEN);
            }
            if (!within(number, low, high)) {
                return wrong(FAULT_NUMBER);
            }
            made.addNumber(number);
            advance();
            return true;
        }

        /** In all that follows, depth is how many of ( not kinds if and - are open around. */
        private boolean readSum(int depth) {
            boolean right = readProduct(depth);
            for (int i = 0; i < TAPE && right && (token == PLUS || token == MINUS); i++) {
                int joint = token;
                advance();
                right = readProduct(depth);
                made.put(joint, 0);
            }
            return right;
        }

        private boolean readProduct(int depth) {
            boolean right = readOne(depth);
            for (int i = 0; i < TAPE && right && within(token, TIMES, REST); i++) {
                int joint = token;
                advance();
                right = readOne(depth);
                made.put(joint, 0);
            }
            return right;
        }

        private boolean readOne(int depth) {
            if (token == NUMBER) {
                return readConstant();
            }
            if (within(token, W_DAY, W_LONG)) {
                return readName();
            }
            int opener = token;
            if (opener != OPEN && opener != MINUS && opener != W_KINDS && opener != W_IF) {
                return wrong(FAULT_TOKEN);
            }
            if (depth >= OPENED) {
                return wrong(FAULT_OPENED);
            }
            advance();
            if (opener == OPEN) {
                return readSum(depth + 1) && pass(CLOSE);
            }
            if (opener == W_IF) {
                return readIf(depth + 1);
            }
            boolean right = readOne(depth + 1);
            made.put(opener == MINUS ? NEGATE : W_KINDS, 0);
            return right;
        }

        private boolean readConstant() {
            if (number > MOST) {
                return wrong(FAULT_NUMBER);
            }
            made.put(NUMBER, number);
            advance();
            return true;
        }

        private boolean readName() {
            int name = token - W_DAY;
            if ((NAME_LAWS[name] >> law & 1) == 0) {
                return wrong(FAULT_NAME);
            }
            made.put(token, 0);
            advance();
            return true;
        }

        private boolean readIf(int depth) {
            if (!readEither(depth) || !pass(W_THEN)) {
                return false;
            }
            int toElse = made.size;
            made.put(JUMP_UNLESS, 0);
            if (!readSum(depth) || !pass(W_ELSE)) {
                return false;
            }
            int toEnd = made.size;
            made.put(JUMP, 0);
            made.aimHere(toElse);
            if (!readSum(depth) || !pass(W_END)) {
                return false;
            }
            made.aimHere(toEnd);
            return true;
        }

        private boolean readEither(int depth) {
            boolean right = readBoth(depth);
            for (int i = 0; i < TAPE && right && token == W_OR; i++) {
                advance();
                right = readBoth(depth);
                made.put(W_OR, 0);
            }
            return right;
        }

        private boolean readBoth(int depth) {
            boolean right = readAsk(depth);
            for (int i = 0; i < TAPE && right && token == W_AND; i++) {
                advance();
                right = readAsk(depth);
                made.put(W_AND, 0);
            }
            return right;
        }

        private boolean readAsk(int depth) {
            if (token == W_NOT) {
                return readNot(depth);
            }
            if (!readSum(depth)) {
                return false;
            }
            int relation = token;
            if (!within(relation, LESS, UNLIKE) && relation != AT_MOST && relation != AT_LEAST) {
                return wrong(FAULT_TOKEN);
            }
            advance();
            boolean right = readSum(depth);
            made.put(relation, 0);
            return right;
        }

        private boolean readNot(int depth) {
            if (depth >= OPENED) {
                return wrong(FAULT_OPENED);
            }
            advance();
            boolean right = readAsk(depth + 1);
            made.put(W_NOT, 0);
            return right;
        }
    }

    /** The TEXTS, and what their laws say. */
    private static final class Law {
        private final Film film;
        private final Text[] texts = new Text[TEXTS];
        /** Stands where no TEXT rules: it has no law. */
        private final Text bare = new Text();
        private final int[] known = new int[WORD_COUNT];
        private final int[] stack = new int[TAPE];

        Law(Film film) {
            this.film = film;
            for (int t = 0; t < TEXTS; t++) {
                texts[t] = new Text();
            }
        }

        Text textOf(int t) {
            Text text = within(t, 0, TEXTS - 1) ? texts[t] : bare;
            return text == null ? bare : text;
        }

        /** What all laws know stays the same for an evening: it is looked up once ahead of the asking. */
        void lookAround() {
            known[W_DAY] = film.now[DAY];
            known[W_SEEN] = Integer.bitCount(film.seenBits());
            known[W_PLAIN] = film.plainTogether();
        }

        int cueSaid(int scene, int shown, int draw) {
            Text text = textOf(film.ruling);
            if (!text.has(W_CUES)) {
                return draw >= CUES || known[W_SEEN] == 0 ? 0 : draw;
            }
            known[W_SCENE] = scene;
            known[W_SHOWN] = shown;
            known[W_DRAW] = draw;
            return bounded(value(text, W_CUES), CUES - 1);
        }

        boolean staysSaid(int scene, int cue, int next) {
            Text text = textOf(film.ruling);
            if (!text.has(W_STAYS)) {
                return cue == 1;
            }
            known[W_SCENE] = scene;
            known[W_CUE] = cue;
            known[W_NEXT] = next;
            return value(text, W_STAYS) > 0;
        }

        int gladdensSaid(int by, int person, int scenes) {
            Text text = textOf(by);
            if (!text.has(W_GLADDENS)) {
                return film.plainOf[person];
            }
            known[W_WHO] = person;
            known[W_GLAD] = film.now[GLAD_OF + person];
            known[W_ROW] = film.now[ROW_OF + person];
            known[W_LONG] = scenes;
            return bounded(value(text, W_GLADDENS), GLADDEST);
        }

        boolean explains(int text) {
            for (int i = 0; i < film.feltCount; i++) {
                if (gladdensSaid(text, film.feltWho[i], 1) != film.feltGlad[i]) {
                    return false;
                }
            }
            return true;
        }

        private static int bounded(int n, int high) {
            return Math.max(0, Math.min(high, n));
        }

        /** Jumps lead on only: the loop goes through the orders of the law once at most. */
        private int value(Text text, int law) {
            int top = 0;
            int to = Math.min(text.to[law], TAPE);
            for (int at = text.from[law]; at < to; at++) {
                int order = text.code[at] >> 16;
                int with = text.code[at] & 0xFFFF;
                boolean isName = order >= W_DAY && order <= W_LONG;
                if (isName || order == NUMBER) {
                    if (top < TAPE) {
                        stack[top] = isName ? known[order] : with;
                        top++;
                    }
                } else if (order == JUMP) {
                    at = Math.max(at, with - 1);
                } else if (order == JUMP_UNLESS) {
                    top = Math.max(0, top - 1);
                    at = stack[top] == 0 ? Math.max(at, with - 1) : at;
                } else if (order == NEGATE || order == W_NOT || order == W_KINDS) {
                    if (top > 0) {
                        stack[top - 1] = altered(order, stack[top - 1]);
                    }
                } else if (top > 1) {
                    top--;
                    int left = stack[top - 1];
                    int right = stack[top];
                    if (order >= PLUS && order <= REST) {
                        stack[top - 1] = joined(order, left, right);
                    } else {
                        stack[top - 1] = asked(order, left, right) ? 1 : 0;
                    }
                }
            }
            return top > 0 ? stack[top - 1] : 0;
        }

        private int altered(int order, int n) {
            if (order == NEGATE) {
                return -n;
            }
            if (order == W_NOT) {
                return 1 - n;
            }
            return n >= 0 && n < SCENES ? film.kindOf[n] : 0;
        }

        private static int joined(int order, int a, int b) {
            long sum;
            switch (order) {
                case PLUS:
                    sum = (long) a + b;
                    break;
                case MINUS:
                    sum = (long) a - b;
                    break;
                case TIMES:
                    sum = (long) a * b;
                    break;
                case OVER:
                    return b == 0 ? 0 : a / b;
                default:
                    return b == 0 ? 0 : a % b;
            }
            if (sum > SUM_LIMIT) {
                return SUM_LIMIT;
            }
            return sum < -SUM_LIMIT ? -SUM_LIMIT : (int) sum;
        }

        private static boolean asked(int order, int a, int b) {
            switch (order) {
                case W_AND:
                    return (a & b) != 0;
                case W_OR:
                    return (a | b) != 0;
                case LESS:
                    return a < b;
                case AT_MOST:
                    return a <= b;
                case MORE:
                    return a > b;
                case AT_LEAST:
                    return a >= b;
                case LIKE:
                    return a == b;
                default:
                    return a != b;
            }
        }
    }

    /** What is done in the house: STEPS by hand, by a TEXT, by YEARS; and EVENINGS foretold. */
    private static final class House {
        private final Film film;
        private final Law law;
        private final int[] kept = new int[NOW];
        /** Of the latest EVENING. */
        private int scenes;
        private int changes;

        House(Film film, Law law) {
            this.film = film;
            this.law = law;
        }

        boolean canSeat(int person, int row) {
            return film.now[ROW_OF + person] != row;
        }

        boolean canCall(int s, int cue) {
            return film.now[LEADS + s] != film.after(s, cue);
        }

        boolean canMend(int s) {
            return film.now[LEADS + s] != film.told[s * CUES];
        }

        boolean seatStep(int person, int row) {
            film.keepStep();
            film.now[ROW_OF + person] = row;
            return true;
        }

        boolean callStep(int s, int cue) {
            film.keepStep();
            film.now[LEADS + s] = film.after(s, cue);
            return true;
        }

        boolean mendStep(int s) {
            film.keepStep();
            film.now[LEADS + s] = film.told[s * CUES];
            return true;
        }

        /** Of n EVENINGS, those that can be before DAY is at its last. */
        int possible(int n) {
            return Math.min(n, MOST - film.now[DAY]);
        }

        int holdEvenings(int n) {
            int ended = 0;
            for (int i = 0; i < n; i++) {
                film.keepStep();
                ended += holdEvening();
            }
            return ended;
        }

        /** 1 if it ended, else 0. */
        private int holdEvening() {
            law.lookAround();
            int scene = 0;
            scenes = 0;
            changes = 0;
            while (scene != THE_END && scenes < LONGEST) {
                scene = showScene(scene);
                scenes++;
            }
            int ended = scene == THE_END ? 1 : 0;
            if (ended == 1) {
                gladdenSeen();
            }
            writeDown(ended);
            return ended;
        }

        private int showScene(int scene) {
            int[] now = film.now;
            int shown = now[SHOWN + scene];
            now[SHOWN + scene] = Math.min(MOST, shown + 1);
            int draw = now[DRAWN] % 10;
            drawAnew();
            int cue = law.cueSaid(scene, shown, draw);
            int next = film.after(scene, cue);
            if (cue != 0 && now[LEADS + scene] != next && law.staysSaid(scene, cue, next)) {
                now[LEADS + scene] = next;
                changes++;
            }
            return next;
        }

        private void drawAnew() {
            film.now[DRAWN] = (film.now[DRAWN] * 443 + 331) % 30577;
        }

        private void gladdenSeen() {
            for (int p = 0; p < film.persons; p++) {
                if (film.isSeen(p)) {
                    int glad = film.now[GLAD_OF + p] + law.gladdensSaid(film.ruling, p, scenes);
                    film.now[GLAD_OF + p] = Math.min(GLADDEST, glad);
                }
            }
        }

        private void writeDown(int ended) {
            int[] now = film.now;
            int page = now[DAY] % BOOK;
            now[BOOK_LONG + page] = scenes;
            now[BOOK_ENDED + page] = ended;
            now[BOOK_CHANGES + page] = changes;
            now[ENDED] += ended;
            now[DAY]++;
        }

        /** A CLAUSE with its numbers, as by hand; whether it can be. Laws ask for nothing. */
        boolean perform(int head, int a, int b, int c) {
            switch (head) {
                case W_SCENE:
                    film.tellNext(a, b, c);
                    return true;
                case W_KIND:
                    film.kindOf[b] = a;
                    return true;
                case W_PERSON:
                    return film.tellPerson(a, b) != NONE;
                case W_SEAT:
                    return film.isPerson(a) && canSeat(a, b) && seatStep(a, b);
                case W_CALL:
                    return canCall(a, b) && callStep(a, b);
                case W_MEND:
                    return canMend(a) && mendStep(a);
                case W_EVENING:
                    int can = possible(a);
                    holdEvenings(can);
                    return can == a;
                default:
                    return true;
            }
        }

        void passYears(int seed, int n) {
            film.keepStep();
            film.now[DRAWN] = seed * 2 + 199;
            for (int i = 0; i < n; i++) {
                int x = film.now[DRAWN];
                drawAnew();
                passYear(x);
            }
        }

        private void passYear(int x) {
            int[] now = film.now;
            int s = x % SCENES;
            switch (x % 5) {
                case 0:
                    if (film.persons > 0) {
                        now[ROW_OF + x % film.persons] = x / 5 % 10;
                    }
                    break;
                case 1:
                    now[LEADS + s] = film.after(s, 1 + x % 3);
                    break;
                case 2:
                    now[LEADS + s] = film.told[s * CUES];
                    break;
                default:
                    if (possible(1) == 1) {
                        holdEvening();
                    }
                    break;
            }
        }

        /** The evenings are held, and all they did is put back. */
        int foretell(int n, int what) {
            System.arraycopy(film.now, 0, kept, 0, NOW);
            int can = possible(n);
            int ended = 0;
            int changesInAll = 0;
            scenes = 0;
            for (int i = 0; i < can; i++) {
                ended += holdEvening();
                changesInAll += changes;
            }
            System.arraycopy(kept, 0, film.now, 0, NOW);
            if (what == 0) {
                return ended;
            }
            return what == 1 ? scenes : changesInAll;
        }
    }

    /** The SCENES and THE END as places that cues lead between. */
    private static final class Chart {
        private final Film film;
        private final int[] lead = new int[PLACES * CUES];
        private final int[] cuesTo = new int[PLACES];
        /** In how many cues THE END comes in a PLAY: who would have it is next, or who wouldn't. */
        private final int[] wanted = new int[PLACES];
        private final int[] shunned = new int[PLACES];
        private final long[] counts = new long[PLACES];
        private final long[] later = new long[PLACES];
        final int[] sorts = new int[PLACES];
        private final int[] finer = new int[PLACES];

        Chart(Film film) {
            this.film = film;
        }

        private void survey() {
            for (int s = 0; s < PLACES; s++) {
                for (int c = 0; c < CUES; c++) {
                    lead[s * CUES + c] = film.after(s, c);
                }
            }
        }

        private void measureTo(int to) {
            survey();
            for (int s = 0; s < PLACES; s++) {
                cuesTo[s] = s == to ? 0 : NEVER;
            }
            boolean nearer = true;
            for (int round = 0; round < PLACES && nearer; round++) {
                nearer = false;
                for (int i = 0; i < PLACES * CUES; i++) {
                    int cues = cuesTo[lead[i]] + 1;
                    if (cues < cuesTo[i / CUES]) {
                        cuesTo[i / CUES] = cues;
                        nearer = true;
                    }
                }
            }
        }

        int shortestWay(int from, int to, int i) {
            measureTo(to);
            int cues = cuesTo[from];
            if (cues == NEVER) {
                return OTHER;
            }
            if (i == NONE) {
                return cues;
            }
            if (!within(i, 0, cues - 1)) {
                return OTHER;
            }
            int at = from;
            for (int k = 0; k < i; k++) {
                at = lead[at * CUES + nearerCue(at)];
            }
            return nearerCue(at);
        }

        private int nearerCue(int at) {
            for (int c = 0; c < CUES; c++) {
                if (cuesTo[lead[at * CUES + c]] == cuesTo[at] - 1) {
                    return c;
                }
            }
            return 0;
        }

        boolean comesAgain(int s) {
            measureTo(s);
            for (int c = 0; c < CUES; c++) {
                if (cuesTo[lead[s * CUES + c]] < NEVER) {
                    return true;
                }
            }
            return false;
        }

        int deadBits() {
            measureTo(THE_END);
            int bits = 0;
            for (int s = 0; s < SCENES; s++) {
                if (cuesTo[s] == NEVER) {
                    bits |= 1 << s;
                }
            }
            return bits;
        }

        int farthest() {
            measureTo(THE_END);
            int found = NONE;
            for (int s = 0; s < SCENES; s++) {
                if (cuesTo[s] < NEVER && (found == NONE || cuesTo[s] > cuesTo[found])) {
                    found = s;
                }
            }
            return found;
        }

        /** From NEVER everywhere the lengths only sink; two rounds for each SCENE are enough. */
        private void playOut() {
            survey();
            for (int s = 0; s < PLACES; s++) {
                wanted[s] = s == THE_END ? 0 : NEVER;
                shunned[s] = wanted[s];
            }
            boolean sooner = true;
            for (int round = 0; round < 2 * PLACES && sooner; round++) {
                sooner = false;
                for (int s = 0; s < SCENES; s++) {
                    int want = Math.min(NEVER, 1 + shunned[lead[s * CUES + replyOf(s, true)]]);
                    int shun = Math.min(NEVER, 1 + wanted[lead[s * CUES + replyOf(s, false)]]);
                    sooner = sooner || want < wanted[s] || shun < shunned[s];
                    wanted[s] = want;
                    shunned[s] = shun;
                }
            }
        }

        private int replyOf(int s, boolean first) {
            int[] behind = first ? shunned : wanted;
            int reply = 0;
            for (int c = 1; c < CUES; c++) {
                int before = behind[lead[s * CUES + reply]];
                int here = behind[lead[s * CUES + c]];
                if (first ? here < before : here > before) {
                    reply = c;
                }
            }
            return reply;
        }

        int playLength(int s, boolean first) {
            playOut();
            int cues = first ? wanted[s] : shunned[s];
            return cues == NEVER ? NONE : cues;
        }

        int playCue(int s, boolean first) {
            playOut();
            if (s == THE_END || first && wanted[s] == NEVER) {
                return NONE;
            }
            return replyOf(s, first);
        }

        private void countFromEnd() {
            survey();
            for (int s = 0; s < PLACES; s++) {
                counts[s] = s == THE_END ? 1 : 0;
            }
        }

        long oddsWithin(int s, int n, boolean low) {
            countFromEnd();
            long whole = 1;
            for (int k = 0; k < n; k++) {
                whole *= ODDS_WHOLE;
                for (int i = 0; i < SCENES; i++) {
                    long sum = 0;
                    for (int c = 0; c < CUES; c++) {
                        sum += film.odds[c] * counts[lead[i * CUES + c]];
                    }
                    later[i] = sum;
                }
                later[THE_END] = whole;
                System.arraycopy(later, 0, counts, 0, PLACES);
            }
            long common = commonDivisor(counts[s], whole);
            if (common == 0) {
                return NONE;
            }
            return (low ? whole : counts[s]) / common;
        }

        private static long commonDivisor(long a, long b) {
            for (int i = 0; i < 100 && b != 0; i++) {
                long rest = a % b;
                a = b;
                b = rest;
            }
            return a;
        }

        long waysJust(int s, int n) {
            countFromEnd();
            for (int k = 0; k < n; k++) {
                for (int i = 0; i < SCENES; i++) {
                    long sum = 0;
                    for (int c = 0; c < CUES; c++) {
                        sum += counts[lead[i * CUES + c]];
                    }
                    later[i] = sum;
                }
                later[THE_END] = 0;
                System.arraycopy(later, 0, counts, 0, PLACES);
            }
            return counts[s];
        }

        private void sortByKind() {
            survey();
            for (int s = 0; s < SCENES; s++) {
                sorts[s] = film.kindOf[s];
            }
            sorts[THE_END] = KINDS;
        }

        /** Parts those that one cue more tells apart; how many sorts there are then. */
        private int partFiner() {
            int count = 0;
            for (int a = 0; a < PLACES; a++) {
                int b = 0;
                while (b < a && !isAlike(a, b)) {
                    b++;
                }
                if (b < a) {
                    finer[a] = finer[b];
                } else {
                    finer[a] = count;
                    count++;
                }
            }
            System.arraycopy(finer, 0, sorts, 0, PLACES);
            return count;
        }

        private boolean isAlike(int a, int b) {
            boolean alike = sorts[a] == sorts[b];
            for (int c = 0; c < CUES && alike; c++) {
                alike = sorts[lead[a * CUES + c]] == sorts[lead[b * CUES + c]];
            }
            return alike;
        }

        int sortAll() {
            sortByKind();
            int before = 0;
            int count = partFiner();
            for (int round = 0; round < PLACES && count > before; round++) {
                before = count;
                count = partFiner();
            }
            return count;
        }

        int parted(int a, int b) {
            sortByKind();
            for (int cues = 0; cues < PLACES; cues++) {
                if (sorts[a] != sorts[b]) {
                    return cues;
                }
                partFiner();
            }
            return NONE;
        }
    }

    /** What the SEVENTH ROW knows: SCENES it may be. */
    private static final class Seventh {
        private final Film film;

        Seventh(Film film) {
            this.film = film;
        }

        private boolean mayBe(int s) {
            return (film.seventh >> s & 1) != 0;
        }

        int watch(int kind) {
            int then = 0;
            for (int s = 0; s < SCENES; s++) {
                if (mayBe(s) && film.kindOf[s] == kind) {
                    for (int c = 0; c < CUES; c++) {
                        then |= 1 << film.after(s, c);
                    }
                }
            }
            film.seventh = then & ALL_SCENES;
            return film.seventh;
        }

        int onlyScene() {
            int found = NONE;
            for (int s = 0; s < SCENES; s++) {
                if (film.seventh == 1 << s) {
                    found = s;
                }
            }
            return found;
        }

        int tellingCue() {
            int found = NONE;
            int most = 0;
            for (int c = 0; c < CUES; c++) {
                int sorts = sortsBehind(c);
                if (sorts > most) {
                    most = sorts;
                    found = c;
                }
            }
            return found;
        }

        private int sortsBehind(int cue) {
            int bits = 0;
            for (int s = 0; s < SCENES; s++) {
                if (mayBe(s)) {
                    int next = film.after(s, cue);
                    bits |= 1 << (isScene(next) ? film.kindOf[next] : KINDS);
                }
            }
            return Integer.bitCount(bits);
        }
    }

    /**
     * Who sits in front on which of five EVENINGS. One PERSON after another gets a place; those that have one
     * already move on where that makes most of it.
     */
    private static final class Roster {
        /** So heavy that one of LIKES outweighs all the choices among like ones. */
        private static final int HEAVY = 390625;
        /** By PERSON: what an EVENING later weighs, so that the lowest comes first, PERSON by PERSON. */
        private static final int[] LATER = {78125, 15625, 3125, 625, 125, 25, 5, 1};

        private final Film film;
        final int[] eveningOf = new int[PERSONS];
        private final int[] sitting = new int[EVENINGS];
        /** The most that is won if the new PERSON's place is made by one more on that EVENING. */
        private final int[] won = new int[EVENINGS];
        /** Who moves on to that EVENING then; NONE: the new PERSON itself takes it. */
        private final int[] moved = new int[EVENINGS];

        Roster(Film film) {
            this.film = film;
        }

        private int weight(int person, int e) {
            return film.likes[person * EVENINGS + e] * HEAVY - e * LATER[person];
        }

        void assign(int k) {
            for (int e = 0; e < EVENINGS; e++) {
                sitting[e] = 0;
            }
            for (int p = 0; p < film.persons; p++) {
                weighPlaces(p);
                place(p, bestWithRoom(k));
            }
        }

        private void weighPlaces(int person) {
            for (int e = 0; e < EVENINGS; e++) {
                won[e] = weight(person, e);
                moved[e] = NONE;
            }
            for (int round = 1; round < EVENINGS; round++) {
                for (int q = 0; q < person; q++) {
                    weighMoves(q);
                }
            }
        }

        private void weighMoves(int q) {
            int left = eveningOf[q];
            int without = won[left] - weight(q, left);
            for (int e = 0; e < EVENINGS; e++) {
                if (e != left && without + weight(q, e) > won[e]) {
                    won[e] = without + weight(q, e);
                    moved[e] = q;
                }
            }
        }

        private int bestWithRoom(int k) {
            int found = NONE;
            for (int e = 0; e < EVENINGS; e++) {
                if (sitting[e] < k && (found == NONE || won[e] > won[found])) {
                    found = e;
                }
            }
            return Math.max(0, found);
        }

        private void place(int person, int last) {
            sitting[last]++;
            int e = last;
            for (int i = 0; i < EVENINGS && moved[e] != NONE; i++) {
                int q = moved[e];
                int left = eveningOf[q];
                eveningOf[q] = e;
                e = left;
            }
            eveningOf[person] = e;
        }

        int likesTogether() {
            int sum = 0;
            for (int p = 0; p < film.persons; p++) {
                sum += film.likes[p * EVENINGS + eveningOf[p]];
            }
            return sum;
        }
    }
}
