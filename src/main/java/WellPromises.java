import java.util.Arrays;
import java.util.NoSuchElementException;

/** What was promised by the well; ../shared/DOC.md says what each call answers. */
public final class WellPromises {
    public static final int NONE = -1;

    private static final int DAYS = 20;
    private static final int MOST_HOURS = 24;
    private static final int LEAST_HOURS = 4;
    private static final int MOST_PLACES = 8;
    private static final int MOST_WAYS = 12;
    private static final int MOST_FROGS = 6;
    private static final int MOST_PERSONS = 4;
    private static final int MOST_DEEDS = 6;
    private static final int MOST_PROMISES = 8;
    private static final int MOST_VOWS = 8;
    private static final int MOST_NAMES = 26;
    private static final int MOST_TIMES = 3;
    private static final int MOST_DONE = 80;
    private static final int MOST_UNDONE = 8;
    private static final int MOST_GO_BY = 99;
    private static final int MOST_SEEDS = 30;
    private static final int READINGS = 8;
    private static final int IMAGES = 2;

    private static final int TAPE_BYTES = 940;
    private static final int FEED_BYTES = 20;
    private static final int HOUSE_BYTES = 900;
    private static final int DAYBOOK_BYTES = 500;
    private static final int SENTENCE_BYTES = 200;
    private static final int MOST_LINES = 40;
    private static final int MOST_ONES = 20;
    private static final int MOST_WITHIN = 8;
    private static final int OTHER_LIVES = -1000;

    // The numbers of a PROMISE, as promise() tells them.
    private static final int TERMS = 8;
    private static final int PERSON = 0;
    private static final int DEED = 1;
    private static final int PLACE = 2;
    private static final int FROM = 3;
    private static final int TILL = 4;
    private static final int TIMES = 5;
    private static final int EACH = 6;
    private static final int UNLESS = 7;

    // Sorts of NAMES.
    private static final int SORT_PLACE = 0;
    private static final int SORT_PERSON = 1;
    private static final int SORT_DEED = 2;
    private static final int SORT_PROMISE = 3;

    // READINGS, by bits.
    private static final int WITHOUT_TILL = 1;
    private static final int OWN_UNLESS = 2;
    private static final int NEAR_TOO = 4;

    // STATUS.
    private static final int NOT_BOUND = 0;
    private static final int OPEN = 1;
    private static final int KEPT = 2;
    private static final int LET_OFF = 3;
    private static final int BROKEN = 4;

    // Why something can't be done.
    private static final int CAN = 0;
    private static final int WHY_BUSY = 1;
    private static final int WHY_NO_WAY = 2;
    private static final int WHY_OVER = 3;
    private static final int WHY_MANY = 4;
    private static final int WHY_ANOTHERS = 5;
    private static final int WHY_SAID = 6;

    // FAULTS.
    private static final int NO_FAULT = 0;
    private static final int FAULT_TOKEN = 1;
    private static final int FAULT_NUMBER = 2;
    private static final int FAULT_NAME = 3;
    private static final int FAULT_MANY = 4;

    // Kinds of TOKENS; a sign's kind is its own byte, a told word's kind is WORD_HOURS and its place in WORDS.
    private static final int END = 0;
    private static final int NO_TOKEN = 1;
    private static final int NAME = 2;
    private static final int NUMBER = 3;
    private static final int SIGN_OPEN = '(';
    private static final int SIGN_CLOSE = ')';
    private static final int SIGN_STOP = ';';
    private static final int SIGN_LESS = '<';
    private static final int SIGN_SAME = '=';
    private static final int SIGN_MORE = '>';
    private static final int WORD_HOURS = 100;
    private static final int WORD_PLACE = 101;
    private static final int WORD_WAY = 102;
    private static final int WORD_FROG = 103;
    private static final int WORD_PERSON = 104;
    private static final int WORD_DEED = 105;
    private static final int WORD_PROMISE = 106;
    private static final int WORD_EACH = 107;
    private static final int WORD_UNLESS = 108;
    private static final int WORD_VOW = 109;
    private static final int WORD_GOES = 110;
    private static final int WORD_DOES = 111;
    private static final int WORD_SAYS = 112;
    private static final int WORD_HOUR = 113;
    private static final int WORD_OR = 114;
    private static final int WORD_AND = 115;
    private static final int WORD_NOT = 116;
    private static final int WORD_BOUND = 117;
    private static final int WORD_OPEN = 118;
    private static final int WORD_KEPT = 119;
    private static final int WORD_OFF = 120;
    private static final int WORD_BROKEN = 121;
    private static final int WORD_OF = 122;
    private static final int WORD_FROM = 123;
    private static final int WORD_TILL = 124;
    private static final int WORD_TIMES = 125;
    private static final int WORD_NUMBER = 126;
    private static final int TOLD_WORDS = 27;
    private static final String WORDS = "hours place way frog person deed promise each unless vow goes does says hour or and not bound open kept off broken of from till times number ";
    private static final int MOST_LETTERS = 7;
    private static final int MOST_DIGITS = 3;
    private static final int LETTER_BASE = 32;

    // The row of what is so: one number each, then one for each PERSON or PROMISE.
    private static final int TIME = 0;
    private static final int BUSY = 1;
    private static final int DONE = 2;
    private static final int AT = 3;
    private static final int DID = 7;
    private static final int WENT = 11;
    private static final int WHEN = 15;
    private static final int WHERE = 23;
    private static final int ROW = 31;

    // The numbers of a DEED that was done, as done() tells them.
    private static final int MARKS = 4;
    private static final int MARK_WHEN = 0;
    private static final int MARK_WHO = 1;
    private static final int MARK_DEED = 2;
    private static final int MARK_PLACE = 3;

    // A PLAN's table: what is still to be done is two bits for each PROMISE.
    private static final int MOST_DUE = 4;
    private static final int STILL = 256;
    private static final int LAYER = 2048;
    private static final int TABLE = 51200;
    private static final int NO_PLAN = 99;
    private static final int STEP_GO = 100;
    private static final int STEP_DO = 200;

    private final Tape tape = new Tape();
    private final House house = new House();
    private final House draft = new House();
    private final HouseReader houseReader = new HouseReader(tape, draft);
    private final Life life = new Life(house);
    private final Judge judge = new Judge(house, life);
    private final Planner planner = new Planner(house, life, judge);
    private final Dice dice = new Dice(house, life);
    private final Daybook book = new Daybook(tape, house, life);
    private final Sentence words = new Sentence();
    private final Sentence draftWords = new Sentence();
    private final SentenceReader wordReader = new SentenceReader(tape, house, draftWords);
    private final Image[] images = new Image[IMAGES];
    private int brokenThen = 0;
    private boolean judged = false;

    public WellPromises() {
        for (int k = 0; k < IMAGES; k++) {
            images[k] = new Image();
        }
    }

    public int feed(int a, int b, int c, int d, int e) {
        if (tape.length + FEED_BYTES > TAPE_BYTES) {
            return NONE;
        }
        tape.append(a);
        tape.append(b);
        tape.append(c);
        tape.append(d);
        tape.append(e);
        return tape.length;
    }

    public boolean end(int n) {
        if (n < 0 || n > tape.length) {
            return false;
        }
        tape.length = n;
        return true;
    }

    public int house() {
        boolean fine = houseReader.readWhole();
        tape.length = 0;
        if (!fine) {
            return -1 - tape.faultAt;
        }
        house.copyFrom(draft);
        life.begin();
        words.clear();
        return houseReader.lines;
    }

    public int fault() {
        return tape.fault;
    }

    public int promise(int p, int what) throws NoSuchElementException {
        if (!house.isPromise(p) || what < 0 || what > TERMS + 1) {
            throw new NoSuchElementException();
        }
        if (what < TERMS) {
            return house.term(p, what);
        }
        if (what == TERMS) {
            return life.so[WHEN + p];
        }
        return life.isBound(p) ? 1 : 0;
    }

    public int person(int p, int what) {
        if (!house.isPerson(p)) {
            return NONE;
        }
        switch (what) {
            case 0:
                return life.so[AT + p];
            case 1:
                return life.isBusy(p) ? 1 : 0;
            case 2:
                return life.so[DID + p];
            case 3:
                return life.so[WENT + p];
            default:
                return NONE;
        }
    }

    public int way(int a, int b) {
        if (!house.isPlace(a) || !house.isPlace(b)) {
            return NONE;
        }
        return house.stepsBetween(a, b);
    }

    public int frog(int f) {
        return house.isFrog(f) ? house.frogAt[f] : NONE;
    }

    public int now(int what) {
        switch (what) {
            case 0:
                return house.dayOf(life.so[TIME]);
            case 1:
                return house.hourOf(life.so[TIME]);
            case 2:
                return life.so[DONE];
            case 3:
                return life.saidCount();
            case 4:
                return life.boundCount();
            case 5:
                return judge.brokenCount();
            default:
                return NONE;
        }
    }

    public int whyGo(int p, int place) {
        if (!house.isPerson(p) || !house.isPlace(place)) {
            return NONE;
        }
        return life.whyNotGo(p, place);
    }

    public int go(int p, int place) {
        int why = whyGo(p, place);
        if (why == CAN) {
            life.remember();
            life.tryGo(p, place);
        }
        return why;
    }

    public int act(int p, int deed) {
        if (!house.isPerson(p) || !house.isDeed(deed)) {
            return NONE;
        }
        int why = life.whyNotDo(p);
        if (why == CAN) {
            life.remember();
            life.tryDo(p, deed);
        }
        return why;
    }

    public int say(int p, int promise) {
        if (!house.isPerson(p) || !house.isPromise(promise)) {
            return NONE;
        }
        int why = life.whyNotSay(p, promise);
        if (why == CAN) {
            life.remember();
            life.trySay(p, promise);
        }
        return why;
    }

    public int hours(int n) {
        if (n < 1 || n > MOST_GO_BY) {
            return NONE;
        }
        if (life.isOver()) {
            return 0;
        }
        life.remember();
        return life.passHours(n);
    }

    public int done(int k, int what) {
        if (k < 0 || k >= life.so[DONE] || what < 0 || what >= MARKS) {
            return NONE;
        }
        return life.mark(k, what);
    }

    public int undo() {
        return life.forget();
    }

    public int status(int p, int reading) {
        if (!house.isPromise(p) || !isReading(reading)) {
            return NONE;
        }
        return judge.statusOf(p, reading);
    }

    public int readings(int p, int status) {
        if (!house.isPromise(p) || status < NOT_BOUND || status > BROKEN) {
            return NONE;
        }
        int bits = 0;
        for (int reading = 0; reading < READINGS; reading++) {
            if (judge.statusOf(p, reading) == status) {
                bits |= 1 << reading;
            }
        }
        return bits;
    }

    public int broken(int p, int reading) {
        if (!house.isPromise(p) || !isReading(reading)) {
            return NONE;
        }
        return judge.brokenDay(p, reading);
    }

    public int breach(int p, int all) {
        if (!house.isPromise(p)) {
            return NONE;
        }
        if (all == 0) {
            return judge.brokenBySome(p);
        }
        return all == 1 ? judge.brokenByAll(p) : NONE;
    }

    public int asks(int p, int reading) {
        if (!house.isPromise(p) || !isReading(reading)) {
            return NONE;
        }
        return judge.asksToday(p, reading);
    }

    public int agree() {
        int bits = 0;
        for (int reading = 0; reading < READINGS; reading++) {
            if (judge.isLikePlain(reading)) {
                bits |= 1 << reading;
            }
        }
        return bits;
    }

    public int plan(int p) {
        if (!house.isPerson(p) || life.isOver()) {
            return NONE;
        }
        return planner.planFor(p);
    }

    public int step(int hour) {
        return planner.stepIn(hour);
    }

    public int quarrel(int p) {
        if (!house.isPerson(p) || life.isOver()) {
            return NONE;
        }
        return planner.quarrelOf(p);
    }

    public int chain(int p) {
        return house.isPromise(p) ? house.chainOf(p) : NONE;
    }

    public int rings() {
        return house.ringBits();
    }

    public int roots() {
        return house.rootBits();
    }

    public int knows(int f, int p) {
        if (!house.isFrog(f) || !house.isPromise(p)) {
            return NONE;
        }
        return life.knownWhen(f, p);
    }

    public int heard(int p) {
        return house.isPromise(p) ? life.heardBits(p) : NONE;
    }

    public int dry() {
        return house.dryBits();
    }

    public int windows(int p, int deed, int place) {
        if (!house.isPerson(p) || !house.isDeed(deed) || !house.isPlace(place)) {
            return NONE;
        }
        return judge.fittingWindows(p, deed, place);
    }

    public int shortest(int p, int deed, int place) {
        if (!house.isPerson(p) || !house.isDeed(deed) || !house.isPlace(place)) {
            return NONE;
        }
        return judge.shortestWindow(p, deed, place);
    }

    public int drawn(int n, int seed) {
        if (n < 1 || n > MOST_GO_BY || house.persons == 0) {
            return NONE;
        }
        if (life.isOver()) {
            return 0;
        }
        life.remember();
        return dice.passDrawn(n, seed);
    }

    public int odds(int p, int n, int seed) {
        if (!house.isPromise(p) || n < 1 || n > MOST_SEEDS || house.persons == 0) {
            return NONE;
        }
        int count = 0;
        life.setAside();
        for (int k = 0; k < n; k++) {
            dice.passDrawn(2 * house.hours, seed + k);
            if (judge.statusOf(p, 0) == BROKEN) {
                count++;
            }
            life.takeBack();
        }
        return count;
    }

    public int daybook(int lives) {
        if (lives != 0 && lives != 1) {
            return OTHER_LIVES;
        }
        boolean fine = book.readWhole();
        tape.length = 0;
        if (!fine) {
            return -2 - tape.faultAt;
        }
        if (lives == 1) {
            life.remember();
        }
        life.setAside();
        book.live();
        brokenThen = judge.brokenCount();
        judged = true;
        if (lives == 0) {
            life.takeBack();
        }
        return book.good < book.lines ? book.good : NONE;
    }

    public int booked(int what) {
        if (!judged) {
            return NONE;
        }
        switch (what) {
            case 0:
                return book.why;
            case 1:
                return book.good;
            case 2:
                return book.then;
            case 3:
                return brokenThen;
            default:
                return NONE;
        }
    }

    public int sentence() {
        wordReader.begin();
        boolean fine = wordReader.readCond(1) && wordReader.isAtEnd();
        tape.length = 0;
        if (!fine) {
            return -1 - tape.faultAt;
        }
        words.copyFrom(draftWords);
        return words.ones;
    }

    public int said(int k) {
        if (words.length == 0 || k < NONE) {
            return NONE;
        }
        int count = 0;
        for (int p = 0; p < house.promises; p++) {
            if (words.isTrueOf(house, p, judge.statusOf(p, 0))) {
                if (count == k) {
                    return p;
                }
                count++;
            }
        }
        return k == NONE ? count : NONE;
    }

    public boolean image(int k) {
        if (k < 0 || k >= IMAGES) {
            return false;
        }
        images[k].take(house, life, words);
        return true;
    }

    public boolean restore(int k) {
        if (k < 0 || k >= IMAGES || !images[k].taken) {
            return false;
        }
        images[k].give(house, life, words);
        return true;
    }

    public int count(int what) {
        switch (what) {
            case 0:
                return house.hours;
            case 1:
                return house.places;
            case 2:
                return house.ways;
            case 3:
                return house.frogs;
            case 4:
                return house.persons;
            case 5:
                return house.deeds;
            case 6:
                return house.promises;
            case 7:
                return house.vows;
            case 8:
                return tape.length;
            default:
                return NONE;
        }
    }

    private static boolean isReading(int reading) {
        return reading >= 0 && reading < READINGS;
    }

    /** The bytes that were fed, and the TOKENS that a reader takes from them. */
    private static final class Tape {
        final byte[] bytes = new byte[TAPE_BYTES];
        final long[] toldWords = new long[TOLD_WORDS];
        int length = 0;
        int most = 0;
        int at = 0;
        int begin = 0;
        int kind = END;
        long word = 0;
        int number = 0;
        int found = 0;
        int fault = NO_FAULT;
        int faultAt = 0;

        Tape() {
            int k = 0;
            long code = 0;
            for (int i = 0; i < WORDS.length() && k < TOLD_WORDS; i++) {
                char c = WORDS.charAt(i);
                if (c == ' ') {
                    toldWords[k] = code;
                    k++;
                    code = 0;
                } else {
                    code = withLetter(code, c);
                }
            }
        }

        static long withLetter(long code, int c) {
            return code * LETTER_BASE + (c - 'a' + 1);
        }

        static boolean isLetter(int c) {
            return c >= 'a' && c <= 'z';
        }

        static boolean isDigit(int c) {
            return c >= '0' && c <= '9';
        }

        static boolean isSign(int c) {
            return c == SIGN_STOP || c == SIGN_OPEN || c == SIGN_CLOSE || isCompare(c);
        }

        static boolean isCompare(int c) {
            return c == SIGN_LESS || c == SIGN_SAME || c == SIGN_MORE;
        }

        void append(int four) {
            for (int shift = 24; shift >= 0 && length < TAPE_BYTES; shift -= 8) {
                bytes[length] = (byte) (four >>> shift);
                length++;
            }
        }

        void startReading(int mostBytes) {
            most = mostBytes;
            at = 0;
            begin = 0;
            fault = NO_FAULT;
            faultAt = 0;
            readNext();
        }

        void readNext() {
            while (at < length && (bytes[at] == ' ' || bytes[at] == '\n')) {
                at++;
            }
            if (at >= most && length > most) {
                begin = most;
                kind = NO_TOKEN;
                return;
            }
            begin = at;
            if (at >= length) {
                kind = END;
            } else if (isLetter(bytes[at]) || isDigit(bytes[at])) {
                readRun();
            } else {
                kind = isSign(bytes[at]) ? bytes[at] : NO_TOKEN;
                at++;
            }
        }

        private void readRun() {
            int letters = 0;
            int digits = 0;
            word = 0;
            number = 0;
            while (at < length && (isLetter(bytes[at]) || isDigit(bytes[at]))) {
                if (isLetter(bytes[at])) {
                    letters++;
                    word = withLetter(word, bytes[at]);
                } else {
                    digits++;
                    number = number * 10 + (bytes[at] - '0');
                }
                at++;
            }
            if (digits == 0 && letters <= MOST_LETTERS) {
                kind = kindOfWord();
            } else {
                kind = letters == 0 && digits <= MOST_DIGITS ? NUMBER : NO_TOKEN;
            }
        }

        private int kindOfWord() {
            for (int k = 0; k < TOLD_WORDS; k++) {
                if (toldWords[k] == word) {
                    return WORD_HOURS + k;
                }
            }
            return NAME;
        }

        /** Always false, so that a reader can end with it. */
        boolean fail(int faultKind) {
            fault = faultKind;
            faultAt = begin;
            return false;
        }

        boolean takeSign(int sign) {
            readNext();
            return kind == sign || fail(FAULT_TOKEN);
        }

        boolean takeNumber(int least, int highest) {
            readNext();
            if (kind != NUMBER) {
                return fail(FAULT_TOKEN);
            }
            return (number >= least && number <= highest) || fail(FAULT_NUMBER);
        }

        boolean takeNew(House house) {
            readNext();
            if (kind != NAME) {
                return fail(FAULT_TOKEN);
            }
            return house.nameIndex(word) == NONE || fail(FAULT_NAME);
        }

        boolean takeKnown(House house, int sort) {
            readNext();
            return isKnown(house, sort);
        }

        boolean isKnown(House house, int sort) {
            if (kind != NAME) {
                return fail(FAULT_TOKEN);
            }
            int index = house.nameIndex(word);
            if (index == NONE || house.nameSorts[index] != sort) {
                return fail(FAULT_NAME);
            }
            found = house.nameNumbers[index];
            return true;
        }
    }

    /** What a HOUSE's text tells, and what follows from that alone. */
    private static final class House {
        int hours = MOST_HOURS;
        int places = 0;
        int ways = 0;
        int frogs = 0;
        int persons = 0;
        int deeds = 0;
        int promises = 0;
        int vows = 0;
        int names = 0;
        final int[] near = new int[MOST_PLACES];
        final int[] frogAt = new int[MOST_FROGS];
        final int[] homes = new int[MOST_PERSONS];
        final int[] terms = new int[MOST_PROMISES * TERMS];
        final int[] vowed = new int[MOST_PROMISES];
        final long[] nameWords = new long[MOST_NAMES];
        final int[] nameSorts = new int[MOST_NAMES];
        final int[] nameNumbers = new int[MOST_NAMES];

        void clear() {
            hours = MOST_HOURS;
            places = 0;
            ways = 0;
            frogs = 0;
            persons = 0;
            deeds = 0;
            promises = 0;
            vows = 0;
            names = 0;
            Arrays.fill(near, 0);
            Arrays.fill(vowed, 0);
        }

        void copyFrom(House other) {
            hours = other.hours;
            places = other.places;
            ways = other.ways;
            frogs = other.frogs;
            persons = other.persons;
            deeds = other.deeds;
            promises = other.promises;
            vows = other.vows;
            names = other.names;
            System.arraycopy(other.near, 0, near, 0, MOST_PLACES);
            System.arraycopy(other.frogAt, 0, frogAt, 0, MOST_FROGS);
            System.arraycopy(other.homes, 0, homes, 0, MOST_PERSONS);
            System.arraycopy(other.terms, 0, terms, 0, MOST_PROMISES * TERMS);
            System.arraycopy(other.vowed, 0, vowed, 0, MOST_PROMISES);
            System.arraycopy(other.nameWords, 0, nameWords, 0, MOST_NAMES);
            System.arraycopy(other.nameSorts, 0, nameSorts, 0, MOST_NAMES);
            System.arraycopy(other.nameNumbers, 0, nameNumbers, 0, MOST_NAMES);
        }

        boolean isPlace(int n) {
            return n >= 0 && n < places;
        }

        boolean isFrog(int n) {
            return n >= 0 && n < frogs;
        }

        boolean isPerson(int n) {
            return n >= 0 && n < persons;
        }

        boolean isDeed(int n) {
            return n >= 0 && n < deeds;
        }

        boolean isPromise(int n) {
            return n >= 0 && n < promises;
        }

        boolean isNear(int a, int b) {
            return (near[a] >> b & 1) == 1;
        }

        int term(int p, int what) {
            return terms[p * TERMS + what];
        }

        int dayOf(int time) {
            return hours > 0 ? time / hours : 0;
        }

        int hourOf(int time) {
            return hours > 0 ? time % hours : 0;
        }

        int nameIndex(long word) {
            for (int k = 0; k < names; k++) {
                if (nameWords[k] == word) {
                    return k;
                }
            }
            return NONE;
        }

        void addName(long word, int sort, int number) {
            if (names < MOST_NAMES) {
                nameWords[names] = word;
                nameSorts[names] = sort;
                nameNumbers[names] = number;
                names++;
            }
        }

        void addPlace(long word) {
            addName(word, SORT_PLACE, places);
            places++;
        }

        void addDeed(long word) {
            addName(word, SORT_DEED, deeds);
            deeds++;
        }

        void addWay(int a, int b) {
            near[a] |= 1 << b;
            near[b] |= 1 << a;
            ways++;
        }

        void addFrog(int place) {
            if (frogs < MOST_FROGS) {
                frogAt[frogs] = place;
                frogs++;
            }
        }

        void addPerson(long word, int place) {
            if (persons < MOST_PERSONS) {
                addName(word, SORT_PERSON, persons);
                homes[persons] = place;
                persons++;
            }
        }

        void addPromise(long word, int[] told) {
            if (promises < MOST_PROMISES) {
                addName(word, SORT_PROMISE, promises);
                System.arraycopy(told, 0, terms, promises * TERMS, TERMS);
                promises++;
            }
        }

        boolean isVow(int first, int second) {
            return (vowed[second] >> first & 1) == 1;
        }

        void addVow(int first, int second) {
            vowed[second] |= 1 << first;
            vows++;
        }

        /** The PLACES of some, as bits, and those to which there is a way from them. */
        int spread(int bits) {
            int wider = bits;
            for (int place = 0; place < places; place++) {
                if ((bits >> place & 1) == 1) {
                    wider |= near[place];
                }
            }
            return wider;
        }

        int stepsBetween(int a, int b) {
            int reached = 1 << a;
            for (int steps = 0; steps < MOST_PLACES; steps++) {
                if ((reached >> b & 1) == 1) {
                    return steps;
                }
                reached = spread(reached);
            }
            return NONE;
        }

        int frogPlaces() {
            int bits = 0;
            for (int f = 0; f < frogs; f++) {
                bits |= 1 << frogAt[f];
            }
            return bits;
        }

        int dryBits() {
            return ((1 << places) - 1) & ~frogPlaces();
        }

        /** Those that break with some PROMISES by vows, as bits; the some only if they come back. */
        int brokenWith(int bits) {
            int all = 0;
            for (int round = 0; round < MOST_PROMISES; round++) {
                int from = bits | all;
                for (int p = 0; p < promises; p++) {
                    if ((from >> p & 1) == 1) {
                        all |= vowed[p];
                    }
                }
            }
            return all;
        }

        int chainOf(int p) {
            return 1 << p | brokenWith(1 << p);
        }

        int ringBits() {
            int bits = 0;
            for (int p = 0; p < promises; p++) {
                bits |= brokenWith(1 << p) & 1 << p;
            }
            return bits;
        }

        int rootBits() {
            int whole = (1 << promises) - 1;
            int best = whole;
            for (int set = 0; set <= whole; set++) {
                if (Integer.bitCount(set) < Integer.bitCount(best) && (set | brokenWith(set)) == whole) {
                    best = set;
                }
            }
            return best;
        }
    }

    /** Reads a HOUSE from the tape into a draft, so that the HOUSE stays where there is a FAULT. */
    private static final class HouseReader {
        final Tape tape;
        final House house;
        final int[] told = new int[TERMS];
        int lines = 0;
        boolean hoursTold = false;

        HouseReader(Tape tape, House house) {
            this.tape = tape;
            this.house = house;
        }

        boolean readWhole() {
            house.clear();
            hoursTold = false;
            tape.startReading(HOUSE_BYTES);
            boolean fine = true;
            for (lines = 0; lines < TAPE_BYTES && fine && tape.kind != END; lines++) {
                switch (tape.kind) {
                    case WORD_HOURS:
                        fine = readHours();
                        break;
                    case WORD_PLACE:
                        fine = readPlace();
                        break;
                    case WORD_WAY:
                        fine = readWay();
                        break;
                    case WORD_FROG:
                        fine = readFrog();
                        break;
                    case WORD_PERSON:
                        fine = readPerson();
                        break;
                    case WORD_DEED:
                        fine = readDeed();
                        break;
                    case WORD_PROMISE:
                        fine = readPromise();
                        break;
                    case WORD_VOW:
                        fine = readVow();
                        break;
                    default:
                        fine = tape.fail(FAULT_TOKEN);
                        break;
                }
                tape.readNext();
            }
            return fine;
        }

        private boolean readHours() {
            if (hoursTold) {
                return tape.fail(FAULT_NAME);
            }
            hoursTold = true;
            if (!tape.takeNumber(LEAST_HOURS, MOST_HOURS)) {
                return false;
            }
            house.hours = tape.number;
            return tape.takeSign(SIGN_STOP);
        }

        private boolean readPlace() {
            if (house.places >= MOST_PLACES) {
                return tape.fail(FAULT_MANY);
            }
            if (!tape.takeNew(house)) {
                return false;
            }
            house.addPlace(tape.word);
            return tape.takeSign(SIGN_STOP);
        }

        private boolean readDeed() {
            if (house.deeds >= MOST_DEEDS) {
                return tape.fail(FAULT_MANY);
            }
            if (!tape.takeNew(house)) {
                return false;
            }
            house.addDeed(tape.word);
            return tape.takeSign(SIGN_STOP);
        }

        private boolean readWay() {
            if (house.ways >= MOST_WAYS) {
                return tape.fail(FAULT_MANY);
            }
            if (!tape.takeKnown(house, SORT_PLACE)) {
                return false;
            }
            int a = tape.found;
            if (!tape.takeKnown(house, SORT_PLACE)) {
                return false;
            }
            int b = tape.found;
            if (a == b || house.isNear(a, b)) {
                return tape.fail(FAULT_NAME);
            }
            house.addWay(a, b);
            return tape.takeSign(SIGN_STOP);
        }

        private boolean readFrog() {
            if (house.frogs >= MOST_FROGS) {
                return tape.fail(FAULT_MANY);
            }
            if (!tape.takeKnown(house, SORT_PLACE)) {
                return false;
            }
            house.addFrog(tape.found);
            return tape.takeSign(SIGN_STOP);
        }

        private boolean readPerson() {
            if (house.persons >= MOST_PERSONS) {
                return tape.fail(FAULT_MANY);
            }
            if (!tape.takeNew(house)) {
                return false;
            }
            long word = tape.word;
            if (!tape.takeKnown(house, SORT_PLACE)) {
                return false;
            }
            house.addPerson(word, tape.found);
            return tape.takeSign(SIGN_STOP);
        }

        private boolean readPromise() {
            if (house.promises >= MOST_PROMISES) {
                return tape.fail(FAULT_MANY);
            }
            if (!tape.takeNew(house)) {
                return false;
            }
            long word = tape.word;
            if (!readWhoWhatWhere() || !readWhenHowOften() || !readEachUnless()) {
                return false;
            }
            house.addPromise(word, told);
            return true;
        }

        private boolean readWhoWhatWhere() {
            if (!tape.takeKnown(house, SORT_PERSON)) {
                return false;
            }
            told[PERSON] = tape.found;
            if (!tape.takeKnown(house, SORT_DEED)) {
                return false;
            }
            told[DEED] = tape.found;
            if (!tape.takeKnown(house, SORT_PLACE)) {
                return false;
            }
            told[PLACE] = tape.found;
            return true;
        }

        private boolean readWhenHowOften() {
            if (!tape.takeNumber(0, MOST_HOURS - 1)) {
                return false;
            }
            told[FROM] = tape.number;
            if (!tape.takeNumber(told[FROM], MOST_HOURS - 1)) {
                return false;
            }
            told[TILL] = tape.number;
            if (!tape.takeNumber(1, MOST_TIMES)) {
                return false;
            }
            told[TIMES] = tape.number;
            return true;
        }

        private boolean readEachUnless() {
            told[EACH] = 0;
            told[UNLESS] = NONE;
            tape.readNext();
            if (tape.kind == WORD_EACH) {
                told[EACH] = 1;
                tape.readNext();
            }
            if (tape.kind == WORD_UNLESS) {
                if (!tape.takeKnown(house, SORT_DEED)) {
                    return false;
                }
                told[UNLESS] = tape.found;
                tape.readNext();
            }
            return tape.kind == SIGN_STOP || tape.fail(FAULT_TOKEN);
        }

        private boolean readVow() {
            if (house.vows >= MOST_VOWS) {
                return tape.fail(FAULT_MANY);
            }
            if (!tape.takeKnown(house, SORT_PROMISE)) {
                return false;
            }
            int first = tape.found;
            if (!tape.takeKnown(house, SORT_PROMISE)) {
                return false;
            }
            int second = tape.found;
            if (first == second || house.isVow(first, second)) {
                return tape.fail(FAULT_NAME);
            }
            house.addVow(first, second);
            return tape.takeSign(SIGN_STOP);
        }
    }

    /** What is so now: a row that can be kept and taken back, and the DEEDS behind it, which only grow or are cut. */
    private static final class Life {
        final House house;
        final int[] so = new int[ROW];
        final int[] marks = new int[MOST_DONE * MARKS];
        final int[] aside = new int[ROW];
        final int[] past = new int[MOST_UNDONE * ROW];
        int pastCount = 0;
        int pastNext = 0;

        Life(House house) {
            this.house = house;
            unsayAll();
        }

        void begin() {
            Arrays.fill(so, 0);
            unsayAll();
            System.arraycopy(house.homes, 0, so, AT, MOST_PERSONS);
            pastCount = 0;
        }

        private void unsayAll() {
            for (int p = 0; p < MOST_PROMISES; p++) {
                so[WHEN + p] = NONE;
            }
        }

        void setAside() {
            System.arraycopy(so, 0, aside, 0, ROW);
        }

        void takeBack() {
            System.arraycopy(aside, 0, so, 0, ROW);
        }

        void remember() {
            System.arraycopy(so, 0, past, pastNext * ROW, ROW);
            pastNext = (pastNext + 1) % MOST_UNDONE;
            pastCount = Math.min(pastCount + 1, MOST_UNDONE);
        }

        int forget() {
            if (pastCount == 0) {
                return NONE;
            }
            pastNext = (pastNext + MOST_UNDONE - 1) % MOST_UNDONE;
            pastCount--;
            System.arraycopy(past, pastNext * ROW, so, 0, ROW);
            return pastCount;
        }

        int hoursLeft() {
            return DAYS * house.hours - so[TIME];
        }

        boolean isOver() {
            return hoursLeft() <= 0;
        }

        boolean isBusy(int p) {
            return (so[BUSY] >> p & 1) == 1;
        }

        int whyNotGo(int p, int place) {
            if (isBusy(p)) {
                return WHY_BUSY;
            }
            if (!house.isNear(so[AT + p], place)) {
                return WHY_NO_WAY;
            }
            return isOver() ? WHY_OVER : CAN;
        }

        int whyNotDo(int p) {
            if (isBusy(p)) {
                return WHY_BUSY;
            }
            if (isOver()) {
                return WHY_OVER;
            }
            return so[DONE] >= MOST_DONE ? WHY_MANY : CAN;
        }

        int whyNotSay(int p, int promise) {
            if (isOver()) {
                return WHY_OVER;
            }
            if (house.term(promise, PERSON) != p) {
                return WHY_ANOTHERS;
            }
            return so[WHEN + promise] != NONE ? WHY_SAID : CAN;
        }

        /** CAN, and it is done; else why not, and nothing has changed. */
        int tryGo(int p, int place) {
            int why = whyNotGo(p, place);
            if (why == CAN) {
                so[BUSY] |= 1 << p;
                so[AT + p] = place;
                so[WENT + p]++;
            }
            return why;
        }

        int tryDo(int p, int deed) {
            int why = whyNotDo(p);
            if (why == CAN) {
                int row = so[DONE] * MARKS;
                marks[row + MARK_WHEN] = so[TIME];
                marks[row + MARK_WHO] = p;
                marks[row + MARK_DEED] = deed;
                marks[row + MARK_PLACE] = so[AT + p];
                so[BUSY] |= 1 << p;
                so[DONE]++;
                so[DID + p]++;
            }
            return why;
        }

        int trySay(int p, int promise) {
            int why = whyNotSay(p, promise);
            if (why == CAN) {
                so[WHEN + promise] = so[TIME];
                so[WHERE + promise] = so[AT + p];
            }
            return why;
        }

        int passHours(int n) {
            int gone = Math.min(n, hoursLeft());
            so[TIME] += gone;
            so[BUSY] = 0;
            return gone;
        }

        int mark(int k, int what) {
            return marks[k * MARKS + what];
        }

        boolean isSaid(int p) {
            return so[WHEN + p] != NONE;
        }

        boolean isBound(int p) {
            return isSaid(p) && (house.frogPlaces() >> so[WHERE + p] & 1) == 1;
        }

        int saidCount() {
            int count = 0;
            for (int p = 0; p < house.promises; p++) {
                count += isSaid(p) ? 1 : 0;
            }
            return count;
        }

        int boundCount() {
            int count = 0;
            for (int p = 0; p < house.promises; p++) {
                count += isBound(p) ? 1 : 0;
            }
            return count;
        }

        /** Word goes from PLACE to PLACE, but only by way of PLACES that have a frog. */
        int knownWhen(int f, int p) {
            if (!isBound(p)) {
                return NONE;
            }
            int frogPlaces = house.frogPlaces();
            int known = 1 << so[WHERE + p];
            for (int hours = 0; hours < MOST_PLACES; hours++) {
                if ((known >> house.frogAt[f] & 1) == 1) {
                    return so[WHEN + p] + hours;
                }
                known = house.spread(known) & frogPlaces;
            }
            return NONE;
        }

        int heardBits(int p) {
            int bits = 0;
            for (int f = 0; f < house.frogs; f++) {
                int when = knownWhen(f, p);
                if (when != NONE && when <= so[TIME]) {
                    bits |= 1 << f;
                }
            }
            return bits;
        }
    }

    /** What a PROMISE comes to by a READING, and the WINDOWS that FIT what was done. */
    private static final class Judge {
        final House house;
        final Life life;
        final int[] counts = new int[DAYS];
        final int[] hoursOf = new int[DAYS];
        int offDays = 0;
        int last = 0;
        int due = 0;

        Judge(House house, Life life) {
            this.house = house;
            this.life = life;
        }

        /** Finds, for a PROMISE by which one is BOUND: its last HOUR, its first DUE DAY, what counts on each DAY. */
        private void weigh(int p, int reading) {
            int cut = (reading & WITHOUT_TILL) != 0 ? 1 : 0;
            last = Math.min(house.term(p, TILL) - cut, house.hours - 1);
            int said = life.so[WHEN + p];
            due = house.dayOf(said) + (house.hourOf(said) <= last ? 0 : 1);
            offDays = 0;
            Arrays.fill(counts, 0);
            for (int k = 0; k < life.so[DONE]; k++) {
                int when = life.mark(k, MARK_WHEN);
                if (when >= said && house.hourOf(when) <= last) {
                    weighDeed(p, reading, k);
                }
            }
        }

        private void weighDeed(int p, int reading, int k) {
            int when = life.mark(k, MARK_WHEN);
            int day = house.dayOf(when);
            if (day < 0 || day >= DAYS) {
                return;
            }
            boolean own = life.mark(k, MARK_WHO) == house.term(p, PERSON);
            int deed = life.mark(k, MARK_DEED);
            if (own && deed == house.term(p, DEED) && house.hourOf(when) >= house.term(p, FROM)
                    && isThere(p, reading, life.mark(k, MARK_PLACE))) {
                counts[day]++;
            }
            if (deed == house.term(p, UNLESS) && (own || (reading & OWN_UNLESS) == 0)) {
                offDays |= 1 << day;
            }
        }

        private boolean isThere(int p, int reading, int place) {
            int told = house.term(p, PLACE);
            return place == told || (reading & NEAR_TOO) != 0 && house.isNear(told, place);
        }

        private boolean isWindowOver(int day) {
            return day < DAYS && life.so[TIME] > day * house.hours + last;
        }

        private boolean isKeptOn(int p, int day) {
            return day < DAYS && counts[day] >= house.term(p, TIMES);
        }

        private boolean isOffOn(int day) {
            return day < DAYS && (offDays >> day & 1) == 1;
        }

        int statusOf(int p, int reading) {
            if (!life.isBound(p)) {
                return NOT_BOUND;
            }
            if (brokenDay(p, reading) != NONE) {
                return BROKEN;
            }
            if (house.term(p, EACH) == 1) {
                return OPEN;
            }
            if (isKeptOn(p, due)) {
                return KEPT;
            }
            return isOffOn(due) ? LET_OFF : OPEN;
        }

        int brokenDay(int p, int reading) {
            if (!life.isBound(p)) {
                return NONE;
            }
            weigh(p, reading);
            int lastDue = house.term(p, EACH) == 1 ? DAYS - 1 : due;
            for (int day = due; day <= lastDue && isWindowOver(day); day++) {
                if (!isKeptOn(p, day) && !isOffOn(day)) {
                    return day;
                }
            }
            return NONE;
        }

        int brokenBySome(int p) {
            int first = NONE;
            for (int reading = 0; reading < READINGS; reading++) {
                int day = brokenDay(p, reading);
                if (day != NONE && (first == NONE || day < first)) {
                    first = day;
                }
            }
            return first;
        }

        int brokenByAll(int p) {
            int latest = NONE;
            for (int reading = 0; reading < READINGS; reading++) {
                int day = brokenDay(p, reading);
                if (day == NONE) {
                    return NONE;
                }
                latest = Math.max(latest, day);
            }
            return latest;
        }

        int asksToday(int p, int reading) {
            if (!life.isBound(p) || life.isOver()) {
                return NONE;
            }
            weigh(p, reading);
            int day = house.dayOf(life.so[TIME]);
            if (day < due || day > due && house.term(p, EACH) == 0) {
                return NONE;
            }
            return Math.max(0, house.term(p, TIMES) - counts[day]);
        }

        int brokenCount() {
            int count = 0;
            for (int p = 0; p < house.promises; p++) {
                count += brokenDay(p, 0) != NONE ? 1 : 0;
            }
            return count;
        }

        boolean isLikePlain(int reading) {
            for (int p = 0; p < house.promises; p++) {
                if (statusOf(p, reading) != statusOf(p, 0)) {
                    return false;
                }
            }
            return true;
        }

        /** The HOURS of each DAY in which it was done, as bits, so that a window is tested by one mask. */
        private void gatherHours(int p, int deed, int place) {
            Arrays.fill(hoursOf, 0);
            for (int k = 0; k < life.so[DONE]; k++) {
                int when = life.mark(k, MARK_WHEN);
                int day = house.dayOf(when);
                if (life.mark(k, MARK_WHO) == p && life.mark(k, MARK_DEED) == deed
                        && life.mark(k, MARK_PLACE) == place && day >= 0 && day < DAYS) {
                    hoursOf[day] |= 1 << house.hourOf(when);
                }
            }
        }

        private boolean isFitting(int from, int till) {
            int mask = (1 << till + 1) - (1 << from);
            int daysOver = Math.min(DAYS, house.dayOf(life.so[TIME]));
            for (int day = 0; day < daysOver; day++) {
                if ((hoursOf[day] & mask) == 0) {
                    return false;
                }
            }
            return true;
        }

        int fittingWindows(int p, int deed, int place) {
            gatherHours(p, deed, place);
            int count = 0;
            for (int from = 0; from < house.hours; from++) {
                for (int till = from; till < house.hours; till++) {
                    count += isFitting(from, till) ? 1 : 0;
                }
            }
            return count;
        }

        int shortestWindow(int p, int deed, int place) {
            gatherHours(p, deed, place);
            for (int more = 0; more < house.hours; more++) {
                for (int from = 0; from + more < house.hours; from++) {
                    if (isFitting(from, from + more)) {
                        return 100 * from + from + more;
                    }
                }
            }
            return NONE;
        }
    }

    /** PLANS: from the DAY's last HOUR back, the fewest goings for each PLACE and what is still to be done. */
    private static final class Planner {
        final House house;
        final Life life;
        final Judge judge;
        final int[] dueOnes = new int[MOST_DUE];
        final int[] dueTimes = new int[MOST_DUE];
        final int[] states = new int[STILL];
        final int[] steps = new int[MOST_HOURS];
        byte[] fewest = new byte[0];
        int dueCount = 0;
        int stateCount = 0;
        int person = 0;
        int start = 0;
        int stepFrom = 0;
        int stepEnd = 0;

        Planner(House house, Life life, Judge judge) {
            this.house = house;
            this.life = life;
            this.judge = judge;
        }

        int stepIn(int hour) {
            return hour >= stepFrom && hour < stepEnd ? steps[hour] : NONE;
        }

        int planFor(int p) {
            if (!gatherDue(p)) {
                return NONE;
            }
            int goings = fewestGoings((1 << dueCount) - 1);
            if (goings != NONE) {
                writeSteps(goings);
            }
            return goings;
        }

        int quarrelOf(int p) {
            if (!gatherDue(p)) {
                return NONE;
            }
            int whole = (1 << dueCount) - 1;
            if (fewestGoings(whole) != NONE) {
                return 0;
            }
            for (int size = 1; size < dueCount; size++) {
                for (int set = 1; set < whole; set++) {
                    if (Integer.bitCount(set) == size && fewestGoings(set) == NONE) {
                        return promiseBits(set);
                    }
                }
            }
            return promiseBits(whole);
        }

        private int promiseBits(int set) {
            int bits = 0;
            for (int k = 0; k < dueCount; k++) {
                if ((set >> k & 1) == 1) {
                    bits |= 1 << dueOnes[k];
                }
            }
            return bits;
        }

        /** False if there are more PROMISES than a PLAN takes. */
        private boolean gatherDue(int p) {
            person = p;
            start = house.hourOf(life.so[TIME]);
            dueCount = 0;
            for (int k = 0; k < house.promises; k++) {
                int times = house.term(k, PERSON) == p ? judge.asksToday(k, 0) : NONE;
                if (times != NONE) {
                    if (dueCount >= MOST_DUE) {
                        return false;
                    }
                    dueOnes[dueCount] = k;
                    dueTimes[dueCount] = times;
                    dueCount++;
                }
            }
            return true;
        }

        private static int cell(int hour, int place, int still) {
            return hour * LAYER + place * STILL + still;
        }

        /** For a set of the DUE ones; NONE if they can't be KEPT together. */
        private int fewestGoings(int set) {
            if (fewest.length < TABLE) {
                fewest = new byte[TABLE];
            }
            gatherStates(set);
            for (int place = 0; place < house.places; place++) {
                for (int k = 0; k < stateCount; k++) {
                    fewest[cell(house.hours, place, states[k])] = (byte) (states[k] == 0 ? 0 : NO_PLAN);
                }
            }
            for (int hour = house.hours - 1; hour >= start; hour--) {
                for (int place = 0; place < house.places; place++) {
                    fillPlace(hour, place);
                }
            }
            int goings = fewest[cell(start, life.so[AT + person], states[stateCount - 1])];
            return goings < NO_PLAN ? goings : NONE;
        }

        /** All that may still be to be done, the least first: the whole is the last one. */
        private void gatherStates(int set) {
            int whole = 0;
            for (int k = 0; k < dueCount; k++) {
                whole |= (set >> k & 1) == 1 ? dueTimes[k] << 2 * k : 0;
            }
            stateCount = 0;
            for (int still = 0; still <= whole; still++) {
                if (isWithin(still, whole)) {
                    states[stateCount] = still;
                    stateCount++;
                }
            }
        }

        private static boolean isWithin(int still, int whole) {
            for (int shift = 0; shift < 2 * MOST_DUE; shift += 2) {
                if ((still >> shift & 3) > (whole >> shift & 3)) {
                    return false;
                }
            }
            return true;
        }

        private boolean mustStay(int hour) {
            return hour == start && life.isBusy(person);
        }

        private void fillPlace(int hour, int place) {
            int here = cell(hour, place, 0);
            int stays = cell(hour + 1, place, 0);
            System.arraycopy(fewest, stays, fewest, here, STILL);
            if (mustStay(hour)) {
                return;
            }
            for (int next = 0; next < house.places; next++) {
                if (house.isNear(place, next)) {
                    tryGoing(here, cell(hour + 1, next, 0));
                }
            }
            for (int deed = 0; deed < house.deeds; deed++) {
                int counted = countedFor(hour, place, deed);
                if (counted != 0) {
                    tryDoing(here, stays, counted);
                }
            }
        }

        private void tryGoing(int here, int there) {
            for (int k = 0; k < stateCount; k++) {
                int goings = 1 + fewest[there + states[k]];
                if (goings < fewest[here + states[k]]) {
                    fewest[here + states[k]] = (byte) goings;
                }
            }
        }

        private void tryDoing(int here, int stays, int counted) {
            for (int k = 0; k < stateCount; k++) {
                int goings = fewest[stays + afterDeed(states[k], counted)];
                if (goings < fewest[here + states[k]]) {
                    fewest[here + states[k]] = (byte) goings;
                }
            }
        }

        /** For which of the DUE ones a DEED there and then counts, as the lower of each one's two bits. */
        private int countedFor(int hour, int place, int deed) {
            int bits = 0;
            for (int k = 0; k < dueCount; k++) {
                int p = dueOnes[k];
                if (house.term(p, DEED) == deed && house.term(p, PLACE) == place
                        && house.term(p, FROM) <= hour && hour <= house.term(p, TILL)) {
                    bits |= 1 << 2 * k;
                }
            }
            return bits;
        }

        /** One DEED counts for every PROMISE that asks for it, but none asks for less than nothing. */
        private static int afterDeed(int still, int counted) {
            return still - ((still | still >> 1) & counted);
        }

        private void writeSteps(int goings) {
            int place = life.so[AT + person];
            int still = states[stateCount - 1];
            int left = goings;
            stepFrom = start;
            stepEnd = house.hours;
            for (int hour = start; hour < house.hours; hour++) {
                int what = firstStep(hour, place, still, left);
                steps[hour] = what;
                if (what >= STEP_DO) {
                    still = afterDeed(still, countedFor(hour, place, what - STEP_DO));
                } else if (what >= STEP_GO) {
                    place = what - STEP_GO;
                    left--;
                }
            }
        }

        private int firstStep(int hour, int place, int still, int left) {
            if (mustStay(hour) || fewest[cell(hour + 1, place, still)] == left) {
                return 0;
            }
            for (int next = 0; next < house.places; next++) {
                if (house.isNear(place, next) && 1 + fewest[cell(hour + 1, next, still)] == left) {
                    return STEP_GO + next;
                }
            }
            for (int deed = 0; deed < house.deeds; deed++) {
                int then = afterDeed(still, countedFor(hour, place, deed));
                if (fewest[cell(hour + 1, place, then)] == left) {
                    return STEP_DO + deed;
                }
            }
            return 0;
        }
    }

    /** HOURS DRAWN by a seed. */
    private static final class Dice {
        final House house;
        final Life life;
        int x = 0;

        Dice(House house, Life life) {
            this.house = house;
            this.life = life;
        }

        private int draw(int n) {
            x = x * 1103515245 + 12345;
            return n > 0 ? (x >>> 8) % n : 0;
        }

        int passDrawn(int n, int seed) {
            x = seed;
            int gone = Math.min(n, life.hoursLeft());
            for (int k = 0; k < gone; k++) {
                for (int p = 0; p < house.persons; p++) {
                    drawFor(p);
                }
                life.passHours(1);
            }
            return gone;
        }

        private void drawFor(int p) {
            int sort = draw(3);
            if (sort == 0) {
                life.tryGo(p, draw(house.places));
            } else if (sort == 1 && house.deeds > 0) {
                life.tryDo(p, draw(house.deeds));
            } else if (sort == 2 && house.promises > 0) {
                life.trySay(p, draw(house.promises));
            }
        }
    }

    /** A DAYBOOK: its LINES are read whole before the first one is lived, and what came of it is kept for booked(). */
    private static final class Daybook {
        final Tape tape;
        final House house;
        final Life life;
        final int[] who = new int[MOST_LINES];
        final int[] verb = new int[MOST_LINES];
        final int[] what = new int[MOST_LINES];
        int lines = 0;
        int why = CAN;
        int good = 0;
        int then = 0;

        Daybook(Tape tape, House house, Life life) {
            this.tape = tape;
            this.house = house;
            this.life = life;
        }

        boolean readWhole() {
            tape.startReading(DAYBOOK_BYTES);
            for (lines = 0; lines <= MOST_LINES && tape.kind != END; lines++) {
                if (!readLine()) {
                    return false;
                }
                tape.readNext();
            }
            return true;
        }

        private boolean readLine() {
            boolean isHour = tape.kind == WORD_HOUR;
            if (!isHour && !tape.isKnown(house, SORT_PERSON)) {
                return false;
            }
            if (lines >= MOST_LINES) {
                return tape.fail(FAULT_MANY);
            }
            who[lines] = isHour ? NONE : tape.found;
            return (isHour ? readHour() : readDoing()) && tape.takeSign(SIGN_STOP);
        }

        private boolean readHour() {
            verb[lines] = WORD_HOUR;
            if (!tape.takeNumber(1, MOST_GO_BY)) {
                return false;
            }
            what[lines] = tape.number;
            return true;
        }

        private boolean readDoing() {
            tape.readNext();
            verb[lines] = tape.kind;
            int sort = sortBehind(tape.kind);
            if (sort == NONE) {
                return tape.fail(FAULT_TOKEN);
            }
            if (!tape.takeKnown(house, sort)) {
                return false;
            }
            what[lines] = tape.found;
            return true;
        }

        private static int sortBehind(int kind) {
            switch (kind) {
                case WORD_GOES:
                    return SORT_PLACE;
                case WORD_DOES:
                    return SORT_DEED;
                case WORD_SAYS:
                    return SORT_PROMISE;
                default:
                    return NONE;
            }
        }

        void live() {
            why = CAN;
            good = 0;
            for (int k = 0; k < lines && why == CAN; k++) {
                why = liveLine(k);
                good += why == CAN ? 1 : 0;
            }
            then = life.so[TIME];
        }

        private int liveLine(int k) {
            switch (verb[k]) {
                case WORD_GOES:
                    return life.tryGo(who[k], what[k]);
                case WORD_DOES:
                    return life.tryDo(who[k], what[k]);
                case WORD_SAYS:
                    return life.trySay(who[k], what[k]);
                default:
                    return liveHours(what[k]);
            }
        }

        private int liveHours(int n) {
            if (life.hoursLeft() < n) {
                return WHY_OVER;
            }
            life.passHours(n);
            return CAN;
        }
    }

    /** A SENTENCE, each word behind those that it joins, so that it is said with a stack of bits. */
    private static final class Sentence {
        final int[] kinds = new int[2 * MOST_ONES];
        final int[] signs = new int[2 * MOST_ONES];
        final int[] numbers = new int[2 * MOST_ONES];
        int length = 0;
        int ones = 0;

        void clear() {
            length = 0;
            ones = 0;
        }

        void copyFrom(Sentence other) {
            length = other.length;
            ones = other.ones;
            System.arraycopy(other.kinds, 0, kinds, 0, kinds.length);
            System.arraycopy(other.signs, 0, signs, 0, signs.length);
            System.arraycopy(other.numbers, 0, numbers, 0, numbers.length);
        }

        void add(int kind, int sign, int number) {
            if (length < kinds.length) {
                kinds[length] = kind;
                signs[length] = sign;
                numbers[length] = number;
                length++;
            }
        }

        boolean isTrueOf(House house, int p, int status) {
            int stack = 0;
            for (int k = 0; k < length; k++) {
                int top = stack & 1;
                int below = stack >> 1;
                if (kinds[k] == WORD_NOT) {
                    stack ^= 1;
                } else if (kinds[k] == WORD_AND) {
                    stack = below & (-2 | top);
                } else if (kinds[k] == WORD_OR) {
                    stack = below | top;
                } else {
                    stack = stack << 1 | (isOneTrue(k, house, p, status) ? 1 : 0);
                }
            }
            return (stack & 1) == 1;
        }

        private boolean isOneTrue(int k, House house, int p, int status) {
            switch (kinds[k]) {
                case WORD_BOUND:
                    return status != NOT_BOUND;
                case WORD_OPEN:
                    return status == OPEN;
                case WORD_KEPT:
                    return status == KEPT;
                case WORD_OFF:
                    return status == LET_OFF;
                case WORD_BROKEN:
                    return status == BROKEN;
                case WORD_OF:
                    return house.term(p, PERSON) == numbers[k];
                case WORD_FROM:
                    return isSo(house.term(p, FROM), k);
                case WORD_TILL:
                    return isSo(house.term(p, TILL), k);
                case WORD_TIMES:
                    return isSo(house.term(p, TIMES), k);
                default:
                    return isSo(p, k);
            }
        }

        private boolean isSo(int value, int k) {
            if (signs[k] == SIGN_LESS) {
                return value < numbers[k];
            }
            return signs[k] == SIGN_MORE ? value > numbers[k] : value == numbers[k];
        }
    }

    /** Reads a SENTENCE from the tape; each method begins at the TOKEN read last and ends one behind its own. */
    private static final class SentenceReader {
        final Tape tape;
        final House house;
        final Sentence words;

        SentenceReader(Tape tape, House house, Sentence words) {
            this.tape = tape;
            this.house = house;
            this.words = words;
        }

        void begin() {
            words.clear();
            tape.startReading(SENTENCE_BYTES);
        }

        boolean isAtEnd() {
            return tape.kind == END || tape.fail(FAULT_TOKEN);
        }

        boolean readCond(int depth) {
            if (!readBoth(depth)) {
                return false;
            }
            for (int more = 0; more < MOST_ONES && tape.kind == WORD_OR; more++) {
                tape.readNext();
                if (!readBoth(depth)) {
                    return false;
                }
                words.add(WORD_OR, 0, 0);
            }
            return true;
        }

        private boolean readBoth(int depth) {
            if (!readOne(depth)) {
                return false;
            }
            for (int more = 0; more < MOST_ONES && tape.kind == WORD_AND; more++) {
                tape.readNext();
                if (!readOne(depth)) {
                    return false;
                }
                words.add(WORD_AND, 0, 0);
            }
            return true;
        }

        private boolean readOne(int depth) {
            int kind = tape.kind;
            if (kind != SIGN_OPEN && (kind < WORD_NOT || kind > WORD_NUMBER)) {
                return tape.fail(FAULT_TOKEN);
            }
            if (words.ones >= MOST_ONES || depth > MOST_WITHIN) {
                return tape.fail(FAULT_MANY);
            }
            words.ones++;
            if (kind == SIGN_OPEN) {
                return readBracket(depth);
            }
            if (kind == WORD_NOT) {
                return readNot(depth);
            }
            if (kind == WORD_OF) {
                return readOf();
            }
            return kind > WORD_OF ? readCompare(kind) : readStatus(kind);
        }

        private boolean readBracket(int depth) {
            tape.readNext();
            if (!readCond(depth + 1)) {
                return false;
            }
            if (tape.kind != SIGN_CLOSE) {
                return tape.fail(FAULT_TOKEN);
            }
            tape.readNext();
            return true;
        }

        private boolean readNot(int depth) {
            tape.readNext();
            if (!readOne(depth + 1)) {
                return false;
            }
            words.add(WORD_NOT, 0, 0);
            return true;
        }

        private boolean readStatus(int kind) {
            words.add(kind, 0, 0);
            tape.readNext();
            return true;
        }

        private boolean readOf() {
            tape.readNext();
            if (!tape.isKnown(house, SORT_PERSON)) {
                return false;
            }
            words.add(WORD_OF, 0, tape.found);
            tape.readNext();
            return true;
        }

        private boolean readCompare(int kind) {
            tape.readNext();
            int sign = tape.kind;
            if (!Tape.isCompare(sign)) {
                return tape.fail(FAULT_TOKEN);
            }
            tape.readNext();
            if (tape.kind != NUMBER) {
                return tape.fail(FAULT_TOKEN);
            }
            words.add(kind, sign, tape.number);
            tape.readNext();
            return true;
        }
    }

    /** A HOUSE, what is so in it and the SENTENCE, as they were. */
    private static final class Image {
        final House house = new House();
        final Sentence words = new Sentence();
        final int[] so = new int[ROW];
        final int[] marks = new int[MOST_DONE * MARKS];
        boolean taken = false;

        void take(House theirs, Life life, Sentence said) {
            house.copyFrom(theirs);
            words.copyFrom(said);
            System.arraycopy(life.so, 0, so, 0, ROW);
            System.arraycopy(life.marks, 0, marks, 0, marks.length);
            taken = true;
        }

        void give(House theirs, Life life, Sentence said) {
            theirs.copyFrom(house);
            said.copyFrom(words);
            System.arraycopy(so, 0, life.so, 0, ROW);
            System.arraycopy(marks, 0, life.marks, 0, marks.length);
            life.pastCount = 0;
        }
    }
}
