import java.util.Arrays;

/**
 * The county's breath on loan to the frogs, as the document tells it: a marsh, its law, its books, its deeds, and
 * reeds whose acts come from above. Every row is made once, with the object, and used again by all calls.
 */
public final class FrogBreath {
    public static final int BAD = -1, NOT = -2, FULL = -3, STATE = -5, VOID = -2000000000;

    private static final int NOTHING = -11, OTHER_KIND = -12, NO_PLACE = -13, BELOW_ZERO = -14;
    private static final int GIRLS = 8, FROGS = 8, LAST_PLACE = 35, MOST_BREATH = 99, MOST_KEEPS = 9, LAST_HOUR = 11;
    private static final int NOBODY = -1;
    private static final int HOURS = 0, LOANS = 1, LOST = 2, BACKS = 3, RUN_OVER = 4, LED = 5;
    private static final int GIRL_PLACE = 0, BREATH = 1, FROG_PLACE = 2, KEEPS = 3, OWES = 4, HELD = 5, TWO = 6,
            HOUR = 7;
    private static final int FAR_HOURS = 40, LOAN_HOURS = 24, LEAST_HOURS = 20, ALIKE_HOURS = 12;
    private static final int TAPE = 120, FAULTS = -100;
    private static final int BEATS = 9999, LONGEST_BARS = 2520, FARTHEST = 10, TURNS = 5;
    private static final int BOOK_HOURS = 41, NOT_TOLD = 100, WHOSE_NOBODY = 256, NO_FROG = 9;
    private static final int JUNES = 30, JUNE_HOURS = 40;
    private static final int CHANGES = 40, CHANGE_NUMBER = 0, CHANGE_WHAT = 1, CHANGE_OLD = 2, CHANGE_NEW = 3,
            CHANGE = 4;
    private static final int BODIES = 50, KINDS = 8, TRACE = 24;
    private static final int SHELVES = 6, ROW = 60, BYTES = 0, SHORTS = 1, INTS = 2, LONGS = 3, BOOLEANS = 4, FOUR = 4;

    private final Marsh now = new Marsh();
    private final Marsh thought = new Marsh();
    private final Marsh kept = new Marsh();
    private boolean imageKept;
    private Law law = new Law();
    private Law draft = new Law();
    private final int[] tape = new int[TAPE];
    private int tapeSize;
    private final int[][] changes = new int[CHANGES][CHANGE];
    private int changesKept;
    private int changesDone;
    private final int[][] gains = new int[GIRLS][FROGS];
    private final int[][] mostBack = new int[GIRLS + 1][1 << FROGS];
    private final Reed[] bodies = new Reed[BODIES];
    private int bodyCount;
    // how many bodies ran, and behind it the first of them
    private final int[] ran = new int[1 + TRACE];
    private final Shelf[] shelves = new Shelf[SHELVES];

    public FrogBreath() {
        for (int i = 0; i < SHELVES; i++) {
            shelves[i] = new Shelf();
        }
    }

    // ---- girls, frogs

    public int girl(int place) {
        return mayBe(GIRL_PLACE, place) ? now.addGirl(place) : BAD;
    }

    public int frog(int place, int keeps) {
        boolean so = mayBe(FROG_PLACE, place) && mayBe(KEEPS, keeps);
        return so ? now.addFrog(place, keeps, NOBODY, 0) : BAD;
    }

    public int frogs(int shelf, int i, int n) {
        if (!isShelf(shelf) || !within(n, 1, FROGS)) {
            return BAD;
        }
        Shelf row = shelves[shelf];
        if (row.isBare()) {
            return 0;
        }
        if (!row.isBytes()) {
            return OTHER_KIND;
        }
        int came = 0;
        for (int four = 0; four < n && row.hasPart(i, FOUR * (four + 1)); four++) {
            if (!frogFromFour(row, i + FOUR * four)) {
                break;
            }
            came++;
        }
        return came;
    }

    private boolean frogFromFour(Shelf row, int i) {
        int place = (int) row.at(i);
        int keeps = (int) row.at(i + 1);
        int owes = (int) row.at(i + 2);
        int held = (int) row.at(i + 3);
        boolean so = mayBe(FROG_PLACE, place) && mayBe(KEEPS, keeps) && mayBe(OWES, owes) && mayBe(HELD, held);
        return so && now.addFrog(place, keeps, owes, held) != FULL;
    }

    public int mend(int number, int what, int v) {
        if (!now.hasNumber(number, what) || !mayBe(what, v)) {
            return VOID;
        }
        int was = now.numberOf(number, what);
        if (was != v) {
            noteChange(number, what, was, v);
            now.become(number, what, v);
        }
        return was;
    }

    private boolean mayBe(int what, int v) {
        switch (what) {
            case GIRL_PLACE:
            case FROG_PLACE:
                return within(v, 0, LAST_PLACE);
            case BREATH:
            case HELD:
                return within(v, 0, MOST_BREATH);
            case KEEPS:
                return within(v, 0, MOST_KEEPS);
            case OWES:
                return v == NOBODY || now.hasGirl(v);
            case TWO:
            case HOUR:
                return within(v, 0, LAST_HOUR);
            default:
                return false;
        }
    }

    public int of(int number, int what) {
        return now.hasNumber(number, what) ? now.numberOf(number, what) : VOID;
    }

    public int feed(int letter) {
        if (!within(letter, 0, 255)) {
            return BAD;
        }
        if (tapeSize >= TAPE) {
            return FULL;
        }
        tape[tapeSize] = letter;
        tapeSize++;
        return tapeSize;
    }

    public int law() {
        int fault = draft.read(tape, tapeSize);
        tapeSize = 0;
        if (fault >= 0) {
            return FAULTS - fault;
        }
        Law former = law;
        law = draft;
        draft = former;
        return 1;
    }

    public int loses(int frog) {
        return now.hasFrog(frog) ? now.lossOf(frog, law) : BAD;
    }

    // ---- hours in thought

    public int later(int n, int number, int what) {
        boolean there = what == 3 ? now.hasGirl(number) : now.hasFrog(number);
        if (!within(n, 0, FAR_HOURS) || !within(what, 0, 3) || !there) {
            return VOID;
        }
        thinkOn(n);
        switch (what) {
            case 0:
                return thought.held[number];
            case 1:
                return thought.frogPlace[number];
            case 2:
                return thought.owes[number];
            default:
                return thought.breath[number];
        }
    }

    private void thinkOn(int hours) {
        thought.copy(now);
        for (int i = 0; i < hours; i++) {
            thought.passHour(law);
        }
    }

    public int marsh(int n, int what) {
        if (!within(n, 0, FAR_HOURS) || !within(what, 0, 1)) {
            return BAD;
        }
        thinkOn(n);
        return what == 0 ? thought.owing() : thought.heldByAll();
    }

    public int backWhen(int frog) {
        if (frog != -1 && !now.hasFrog(frog)) {
            return BAD;
        }
        int wanted = frog == -1 ? (1 << FROGS) - 1 : 1 << frog;
        thought.copy(now);
        for (int hours = 0; hours <= FAR_HOURS; hours++) {
            if ((thought.owing() & wanted) == 0) {
                return hours;
            }
            thought.passHour(law);
        }
        return NOT;
    }

    public int loan(int gf, int x, int what) {
        if (!isPair(gf) || !within(x, 1, MOST_BREATH) || !within(what, 0, 1)) {
            return BAD;
        }
        thinkLoan(gf / 10, gf % 10, x);
        return what == 0 ? givenBack(gf % 10) : hoursTillBack(gf % 10);
    }

    private void thinkLoan(int girl, int frog, int x) {
        thought.copy(now);
        thought.lend(girl, frog, x);
    }

    /** What a frog of the thought gives back within 24 hours; NOT. */
    private int givenBack(int frog) {
        int given = NOT;
        for (int hours = 0; hours < LOAN_HOURS && given < 0; hours++) {
            given = thought.passHourOf(frog, law);
            thought.endHour();
        }
        return given < 0 ? NOT : given;
    }

    private int hoursTillBack(int frog) {
        for (int hours = 1; hours <= LOAN_HOURS; hours++) {
            if (thought.passHourOf(frog, law) >= 0) {
                return hours;
            }
            thought.endHour();
        }
        return NOT;
    }

    public int best(int girl, int x, int what) {
        if (!now.hasGirl(girl) || !within(x, 1, MOST_BREATH) || !within(what, 0, 1)) {
            return BAD;
        }
        int best = NOT;
        int most = NOT;
        for (int f = 0; f < now.frogs; f++) {
            thinkLoan(girl, f, x);
            int given = givenBack(f);
            if (given > most) {
                best = f;
                most = given;
            }
        }
        return what == 0 ? best : most;
    }

    public int dealt(int x, int girl) {
        if (!within(x, 1, MOST_BREATH) || girl != -1 && !now.hasGirl(girl)) {
            return BAD;
        }
        thinkGains(x);
        thinkMostBack();
        return girl == -1 ? mostBack[0][0] : frogDealtTo(girl);
    }

    private void thinkGains(int x) {
        for (int g = 0; g < now.girls; g++) {
            for (int f = 0; f < now.frogs; f++) {
                thinkLoan(g, f, x);
                gains[g][f] = givenBack(f);
            }
        }
    }

    /** mostBack[g][taken]: the most that comes back to the girls from g on, if these frogs (bits) are taken. */
    private void thinkMostBack() {
        Arrays.fill(mostBack[now.girls], 0);
        for (int g = now.girls - 1; g >= 0; g--) {
            for (int taken = 0; taken < 1 << now.frogs; taken++) {
                int most = mostBack[g + 1][taken];
                for (int f = 0; f < now.frogs; f++) {
                    most = Math.max(most, backByLending(g, f, taken));
                }
                mostBack[g][taken] = most;
            }
        }
    }

    /** The most that comes back from girl g on, if she lends to this frog; 0 where she may not. */
    private int backByLending(int g, int f, int taken) {
        boolean may = (taken & 1 << f) == 0 && gains[g][f] > 0;
        return may ? gains[g][f] + mostBack[g + 1][taken | 1 << f] : 0;
    }

    private int frogDealtTo(int girl) {
        int taken = 0;
        int frog = NO_FROG;
        for (int g = 0; g <= girl; g++) {
            frog = firstBestFrog(g, taken);
            taken = frog == NO_FROG ? taken : taken | 1 << frog;
        }
        return frog;
    }

    private int firstBestFrog(int g, int taken) {
        for (int f = 0; f < now.frogs; f++) {
            int comesBack = backByLending(g, f, taken);
            if (comesBack > 0 && comesBack == mostBack[g][taken]) {
                return f;
            }
        }
        return NO_FROG;
    }

    public int least(int gf, int nv) {
        if (!isPair(gf) || !within(nv, 0, 10 * LEAST_HOURS + 9)) {
            return BAD;
        }
        for (int x = 1; x <= MOST_BREATH; x++) {
            thinkLoan(gf / 10, gf % 10, x);
            if (heldBehind(gf % 10, nv / 10) / 10 >= nv % 10) {
                return x;
            }
        }
        return NOT;
    }

    private int heldBehind(int frog, int hours) {
        for (int i = 0; i < hours; i++) {
            thought.passHourOf(frog, law);
            thought.endHour();
        }
        return thought.held[frog];
    }

    // ---- bars, stops, books

    public int bars(int frogs, int n) {
        if (!within(frogs, 0, (1 << now.frogs) - 1) || !within(n, -1, BEATS)) {
            return BAD;
        }
        return n == -1 ? nextTogether(frogs) : beginningAt(n, frogs);
    }

    private int nextTogether(int frogs) {
        for (int beat = 1; beat < LONGEST_BARS; beat++) {
            if (beginningAt(beat, frogs) == Integer.bitCount(frogs)) {
                return beat;
            }
        }
        return LONGEST_BARS;
    }

    private int beginningAt(int beat, int frogs) {
        int beginning = 0;
        for (int f = 0; f < now.frogs; f++) {
            int bar = now.keeps[f] + 1;
            if ((frogs & 1 << f) != 0 && bar > 0 && beat % bar == 0) {
                beginning++;
            }
        }
        return beginning;
    }

    public int stops(int x, int what) {
        if (!within(x, 0, FARTHEST) || !within(what, 0, 1)) {
            return BAD;
        }
        int fewest = (1 << now.frogs) - 1;
        for (int stops = 0; stops < 1 << now.frogs; stops++) {
            if (Integer.bitCount(stops) < Integer.bitCount(fewest) && allHeardFrom(stops, x)) {
                fewest = stops;
            }
        }
        return what == 0 ? Integer.bitCount(fewest) : fewest;
    }

    private boolean allHeardFrom(int stops, int x) {
        for (int f = 0; f < now.frogs; f++) {
            if (!isHeardFrom(stops, f, x)) {
                return false;
            }
        }
        return true;
    }

    private boolean isHeardFrom(int stops, int frog, int x) {
        for (int f = 0; f < now.frogs; f++) {
            if ((stops & 1 << f) != 0 && Marsh.far(now.frogPlace[f], now.frogPlace[frog]) <= x) {
                return true;
            }
        }
        return false;
    }

    public int judge(int shelf, int frog) {
        if (!isShelf(shelf) || !now.hasFrog(frog)) {
            return BAD;
        }
        Shelf book = shelves[shelf];
        int refusal = bookRefusal(book);
        if (refusal != 0) {
            return refusal;
        }
        thought.copy(now);
        return firstNotSo(book, frog);
    }

    private static int bookRefusal(Shelf book) {
        if (book.isBare()) {
            return NOTHING;
        }
        return book.isBytes() ? 0 : OTHER_KIND;
    }

    /** The first hour of the thought at which a book is wrong about a frog; NOT. */
    private int firstNotSo(Shelf book, int frog) {
        int hours = Math.min(book.size, BOOK_HOURS);
        for (int i = 0; i < hours; i++) {
            long told = book.at(i);
            if (told != NOT_TOLD && told != thought.held[frog]) {
                return i;
            }
            thought.passHourOf(frog, law);
            thought.endHour();
        }
        return NOT;
    }

    public int fits(int shelf, int frog, int what) {
        if (!isShelf(shelf) || !now.hasFrog(frog) || !within(what, 0, 1)) {
            return BAD;
        }
        Shelf book = shelves[shelf];
        int refusal = bookRefusal(book);
        if (refusal != 0) {
            return refusal;
        }
        return what == 0 ? keptBy(book, frog) : whose(book, frog);
    }

    private int keptBy(Shelf book, int frog) {
        int fitting = 0;
        for (int keeps = 0; keeps <= MOST_KEEPS; keeps++) {
            thought.copy(now);
            thought.keeps[frog] = keeps;
            if (firstNotSo(book, frog) == NOT) {
                fitting |= 1 << keeps;
            }
        }
        return fitting;
    }

    private int whose(Shelf book, int frog) {
        int fitting = 0;
        for (int owes = NOBODY; owes < now.girls; owes++) {
            thought.copy(now);
            thought.owes[frog] = owes;
            if (firstNotSo(book, frog) == NOT) {
                fitting |= owes == NOBODY ? WHOSE_NOBODY : 1 << owes;
            }
        }
        return fitting;
    }

    public int alike() {
        int pairs = 0;
        for (int f = 0; f < now.frogs; f++) {
            for (int g = f + 1; g < now.frogs; g++) {
                pairs += holdAsMuch(f, g) ? 1 : 0;
            }
        }
        return pairs;
    }

    private boolean holdAsMuch(int one, int other) {
        thought.copy(now);
        for (int hours = 0; hours < ALIKE_HOURS; hours++) {
            if (thought.held[one] != thought.held[other]) {
                return false;
            }
            thought.passHourOf(one, law);
            thought.passHourOf(other, law);
            thought.endHour();
        }
        return thought.held[one] == thought.held[other];
    }

    public int ring(int girl) {
        if (!now.hasGirl(girl)) {
            return BAD;
        }
        if (now.girls < 2) {
            return NOT;
        }
        int inRing = girl;
        for (int i = 0; i < now.girls; i++) {
            inRing = now.nearestTo(inRing);
        }
        int count = 1;
        int at = now.nearestTo(inRing);
        for (int i = 0; i < now.girls && at != inRing; i++) {
            at = now.nearestTo(at);
            count++;
        }
        return count;
    }

    public int byTurns(int frog, int n, int what) {
        if (!now.hasFrog(frog) || !within(n, 1, TURNS) || !within(what, 0, 1)) {
            return BAD;
        }
        int keeps = now.keeps[frog];
        int doing = turn(frog, n - 1, false, lessTwo(now.two), keeps);
        int nothing = turn(frog, n - 1, false, now.two, keeps);
        if (what == 1) {
            return doing > nothing ? 1 : 0;
        }
        return Math.max(doing, nothing);
    }

    private static int lessTwo(int two) {
        return Math.max(0, two - 1);
    }

    /** What the frog gives back if from here on, with so many turns left, both do their best. */
    private int turn(int frog, int left, boolean princes, int two, int keeps) {
        if (left <= 0) {
            return backBy(frog, two, keeps);
        }
        int nothing = turn(frog, left - 1, !princes, two, keeps);
        if (princes) {
            return Math.max(nothing, turn(frog, left - 1, false, lessTwo(two), keeps));
        }
        return Math.min(nothing, turn(frog, left - 1, true, two, Math.min(MOST_KEEPS, keeps + 1)));
    }

    private int backBy(int frog, int two, int keeps) {
        thought.copy(now);
        thought.two = two;
        thought.keeps[frog] = keeps;
        return Math.max(0, givenBack(frog));
    }

    public int drawn(int seed, int nmc, int girl) {
        int hours = nmc / 100 % 100;
        boolean told = within(nmc / 10000, 1, JUNES) && within(hours, 1, JUNE_HOURS);
        if (!told || girl != -1 && !now.hasGirl(girl)) {
            return BAD;
        }
        int z = seed;
        int together = 0;
        for (int june = 0; june < nmc / 10000; june++) {
            thought.copy(now);
            for (int i = 0; i < hours; i++) {
                z = z * 1103515245 + 12345;
                thought.meetCart(z, nmc % 100);
                thought.passHour(law);
            }
            together += girl == -1 ? Integer.bitCount(thought.owing()) : thought.breath[girl];
        }
        return together;
    }

    // ---- in deed

    public int hour() {
        return now.passHour(law);
    }

    public int lends(int gf, int x) {
        if (!isPair(gf) || !within(x, 1, MOST_BREATH)) {
            return BAD;
        }
        int girl = gf / 10;
        int frog = gf % 10;
        if (now.owes[frog] != NOBODY || now.breath[girl] < x) {
            return STATE;
        }
        now.lend(girl, frog, x);
        now.breath[girl] -= x;
        now.led[LOANS]++;
        return now.breath[girl];
    }

    public int over(int frog) {
        if (!now.hasFrog(frog)) {
            return BAD;
        }
        if (now.owes[frog] == NOBODY) {
            return STATE;
        }
        int was = now.held[frog];
        now.owesNothing(frog);
        now.led[RUN_OVER]++;
        return was;
    }

    public int led(int what) {
        return within(what, 0, LED - 1) ? now.led[what] : BAD;
    }

    public int image() {
        kept.copy(now);
        imageKept = true;
        return now.led[HOURS];
    }

    public int back() {
        if (!imageKept) {
            return STATE;
        }
        now.layBack(kept);
        return now.led[HOURS];
    }

    private void noteChange(int number, int what, int was, int v) {
        if (changesDone >= CHANGES) {
            forgetOldestChange();
        }
        int[] change = changes[changesDone];
        change[CHANGE_NUMBER] = number;
        change[CHANGE_WHAT] = what;
        change[CHANGE_OLD] = was;
        change[CHANGE_NEW] = v;
        changesDone++;
        changesKept = changesDone;
    }

    private void forgetOldestChange() {
        for (int i = 1; i < CHANGES; i++) {
            System.arraycopy(changes[i], 0, changes[i - 1], 0, CHANGE);
        }
        changesDone = CHANGES - 1;
    }

    public int undo() {
        if (changesDone <= 0) {
            return STATE;
        }
        changesDone--;
        int[] change = changes[changesDone];
        now.become(change[CHANGE_NUMBER], change[CHANGE_WHAT], change[CHANGE_OLD]);
        return changesDone;
    }

    public int redo() {
        if (changesDone >= changesKept) {
            return STATE;
        }
        int[] change = changes[changesDone];
        now.become(change[CHANGE_NUMBER], change[CHANGE_WHAT], change[CHANGE_NEW]);
        changesDone++;
        return changesKept - changesDone;
    }

    // ---- acts, shelves

    public int body(int kind) {
        if (!within(kind, 0, KINDS - 1)) {
            return BAD;
        }
        if (bodyCount >= BODIES) {
            return FULL;
        }
        bodies[bodyCount] = reedOf(kind, bodyCount);
        bodyCount++;
        return bodyCount - 1;
    }

    private Reed reedOf(int kind, int number) {
        switch (kind) {
            case 1:
                return new Muslin(kind, number, ran);
            case 2:
                return new Ditch(kind, number, ran);
            case 3:
                return new Mill(kind, number, ran);
            case 4:
                return new Prince(kind, number, ran);
            case 5:
                return new Clock(kind, number, ran);
            case 6:
                return new Lamp(kind, number, ran);
            case 7:
                return new Sigh(kind, number, ran);
            default:
                return new Reed(kind, number, ran);
        }
    }

    public int act(int body, int act, int x) {
        ran[0] = 0;
        Reed reed = within(body, 0, bodyCount - 1) ? bodies[body] : null;
        if (reed == null) {
            return 0;
        }
        switch (act) {
            case 0:
                return reed.lending(x);
            case 1:
                return reed.singing(x);
            case 2:
                return reed.keeping(x);
            case 3:
                return reed.telling(x);
            default:
                return 0;
        }
    }

    public int trace(int i) {
        return within(i, 0, Math.min(ran[0], TRACE) - 1) ? ran[1 + i] : BAD;
    }

    public int keep(int shelf, int body) {
        if (!isShelf(shelf) || !within(body, -1, bodyCount - 1)) {
            return BAD;
        }
        shelves[shelf].hold(body == -1 ? null : bodies[body]);
        return 1;
    }

    public int row(int shelf, int sort, int n) {
        if (!isShelf(shelf) || !within(sort, BYTES, BOOLEANS) || n > ROW) {
            return BAD;
        }
        if (n < 0) {
            return BELOW_ZERO;
        }
        shelves[shelf].holdRow(sort, n);
        return 1;
    }

    public int put(int shelf, int i, long v) {
        int refusal = elementRefusal(shelf, i);
        if (refusal != 0) {
            return refusal;
        }
        shelves[shelf].become(i, v);
        return 1;
    }

    public long element(int shelf, int i) {
        return elementRefusal(shelf, i) != 0 ? Long.MIN_VALUE : shelves[shelf].at(i);
    }

    private int elementRefusal(int shelf, int i) {
        if (!isShelf(shelf)) {
            return BAD;
        }
        if (shelves[shelf].isBare()) {
            return NOTHING;
        }
        if (!shelves[shelf].isRow()) {
            return OTHER_KIND;
        }
        return shelves[shelf].hasPart(i, 1) ? 0 : NO_PLACE;
    }

    public int shift(int shelf, int i, int other, int j, int n) {
        if (!isShelf(shelf) || !isShelf(other)) {
            return BAD;
        }
        Shelf from = shelves[shelf];
        Shelf to = shelves[other];
        if (from.isBare() || to.isBare()) {
            return NOTHING;
        }
        if (!from.isRow() || !to.isRow() || from.sort != to.sort) {
            return OTHER_KIND;
        }
        if (!from.hasPart(i, n) || !to.hasPart(j, n)) {
            return NO_PLACE;
        }
        System.arraycopy(from.elements, i, to.elements, j, n);
        return n;
    }

    public int taken(int shelf, int k) {
        if (!isShelf(shelf) || !within(k, 0, KINDS - 1)) {
            return BAD;
        }
        if (shelves[shelf].isBare()) {
            return NOTHING;
        }
        Reed reed = shelves[shelf].reed;
        return isOfKind(reed, k) ? reed.kind : OTHER_KIND;
    }

    private static boolean isOfKind(Reed reed, int k) {
        switch (k) {
            case 1:
                return reed instanceof Muslin;
            case 2:
                return reed instanceof Ditch;
            case 3:
                return reed instanceof Mill;
            case 4:
                return reed instanceof Prince;
            case 5:
                return reed instanceof Clock;
            case 6:
                return reed instanceof Lamp;
            case 7:
                return reed instanceof Sigh;
            default:
                return reed != null;
        }
    }

    public int count(int what) {
        switch (what) {
            case 0:
                return now.girls;
            case 1:
                return now.frogs;
            case 2:
                return tapeSize;
            case 3:
                return changesDone;
            case 4:
                return bodyCount;
            case 5:
                return ran[0];
            default:
                return BAD;
        }
    }

    private static boolean within(int v, int low, int high) {
        return v >= low && v <= high;
    }

    private static boolean isShelf(int shelf) {
        return within(shelf, 0, SHELVES - 1);
    }

    /** Whether 10 times a girl, and a frog, are there. */
    private boolean isPair(int gf) {
        return gf >= 0 && now.hasGirl(gf / 10) && now.hasFrog(gf % 10);
    }

    /** All that hours, deeds and mending change; one is in deed, one in thought, one the image. */
    private static final class Marsh {
        final int[] girlPlace = new int[GIRLS];
        final int[] breath = new int[GIRLS];
        final int[] frogPlace = new int[FROGS];
        final int[] keeps = new int[FROGS];
        final int[] owes = new int[FROGS];
        final int[] held = new int[FROGS];
        final int[] led = new int[LED];
        int girls;
        int frogs;
        int two = 5;
        int hour;

        boolean hasGirl(int g) {
            return within(g, 0, girls - 1);
        }

        boolean hasFrog(int f) {
            return within(f, 0, frogs - 1);
        }

        int addGirl(int place) {
            if (girls >= GIRLS) {
                return FULL;
            }
            girlPlace[girls] = place;
            breath[girls] = 60;
            girls++;
            return girls - 1;
        }

        int addFrog(int place, int keeping, int owing, int holding) {
            if (frogs >= FROGS) {
                return FULL;
            }
            frogPlace[frogs] = place;
            keeps[frogs] = keeping;
            owes[frogs] = owing;
            held[frogs] = holding;
            frogs++;
            return frogs - 1;
        }

        boolean hasNumber(int number, int what) {
            switch (what) {
                case GIRL_PLACE:
                case BREATH:
                    return hasGirl(number);
                case FROG_PLACE:
                case KEEPS:
                case OWES:
                case HELD:
                    return hasFrog(number);
                case TWO:
                case HOUR:
                    return number == 0;
                default:
                    return false;
            }
        }

        int numberOf(int number, int what) {
            switch (what) {
                case GIRL_PLACE:
                    return girlPlace[number];
                case BREATH:
                    return breath[number];
                case FROG_PLACE:
                    return frogPlace[number];
                case KEEPS:
                    return keeps[number];
                case OWES:
                    return owes[number];
                case HELD:
                    return held[number];
                case TWO:
                    return two;
                default:
                    return hour;
            }
        }

        void become(int number, int what, int v) {
            if (!hasNumber(number, what)) {
                return;
            }
            switch (what) {
                case GIRL_PLACE:
                    girlPlace[number] = v;
                    break;
                case BREATH:
                    breath[number] = v;
                    break;
                case FROG_PLACE:
                    frogPlace[number] = v;
                    break;
                case KEEPS:
                    keeps[number] = v;
                    break;
                case OWES:
                    owes[number] = v;
                    break;
                case HELD:
                    held[number] = v;
                    break;
                case TWO:
                    two = v;
                    break;
                default:
                    hour = v;
                    break;
            }
        }

        void copy(Marsh other) {
            girls = other.girls;
            frogs = other.frogs;
            two = other.two;
            System.arraycopy(other.girlPlace, 0, girlPlace, 0, GIRLS);
            System.arraycopy(other.keeps, 0, keeps, 0, FROGS);
            layBack(other);
        }

        /** What an image keeps, of those that were there when it was made. */
        void layBack(Marsh image) {
            System.arraycopy(image.breath, 0, breath, 0, image.girls);
            System.arraycopy(image.frogPlace, 0, frogPlace, 0, image.frogs);
            System.arraycopy(image.owes, 0, owes, 0, image.frogs);
            System.arraycopy(image.held, 0, held, 0, image.frogs);
            System.arraycopy(image.led, 0, led, 0, LED);
            hour = image.hour;
        }

        static int far(int place, int other) {
            return Math.abs(place / 6 - other / 6) + Math.abs(place % 6 - other % 6);
        }

        int nearestTo(int girl) {
            int nearest = girl;
            for (int g = 0; g < girls; g++) {
                boolean nearer = nearest == girl
                        || far(girlPlace[girl], girlPlace[g]) < far(girlPlace[girl], girlPlace[nearest]);
                if (g != girl && nearer) {
                    nearest = g;
                }
            }
            return nearest;
        }

        int owing() {
            int bits = 0;
            for (int f = 0; f < frogs; f++) {
                bits |= hasGirl(owes[f]) ? 1 << f : 0;
            }
            return bits;
        }

        int heldByAll() {
            int sum = 0;
            for (int f = 0; f < frogs; f++) {
                sum += held[f];
            }
            return sum;
        }

        void lend(int girl, int frog, int x) {
            owes[frog] = girl;
            held[frog] = x;
        }

        void owesNothing(int frog) {
            owes[frog] = NOBODY;
            held[frog] = 0;
        }

        void meetCart(int z, int carts) {
            if (frogs > 0 && (z >>> 16) % 100 < carts) {
                owesNothing((z >>> 8) % frogs);
            }
        }

        int lossOf(int f, Law law) {
            int girl = owes[f];
            if (!hasGirl(girl)) {
                return 0;
            }
            int far = far(frogPlace[f], girlPlace[girl]);
            int told = law.isTold() ? law.worked(held[f], keeps[f], far, hour, girl, f) : keeps[f] + hour / 4;
            return Math.min(held[f], Math.max(0, Math.min(20, told)));
        }

        /** One frog's part of an hour: how much he gives back; NOT: he isn't back by it. */
        int passHourOf(int f, Law law) {
            int girl = owes[f];
            if (!hasGirl(girl)) {
                return NOT;
            }
            int loss = lossOf(f, law);
            held[f] -= loss;
            led[LOST] += loss;
            if (hour < two) {
                return NOT;
            }
            frogPlace[f] = nearer(frogPlace[f], girlPlace[girl]);
            if (frogPlace[f] != girlPlace[girl]) {
                return NOT;
            }
            int given = held[f];
            breath[girl] = Math.min(MOST_BREATH, breath[girl] + given);
            owesNothing(f);
            led[BACKS]++;
            return given;
        }

        static int nearer(int place, int goal) {
            int x = Integer.compare(goal % 6, place % 6);
            return x != 0 ? place + x : place + 6 * Integer.compare(goal / 6, place / 6);
        }

        void endHour() {
            hour = hour < LAST_HOUR ? hour + 1 : 0;
            led[HOURS]++;
        }

        /** An hour of all: how many frogs are back by it. */
        int passHour(Law law) {
            int backs = 0;
            for (int f = 0; f < frogs; f++) {
                backs += passHourOf(f, law) >= 0 ? 1 : 0;
            }
            endHour();
            return backs;
        }
    }

    /** The law: its text as steps for a stack. */
    private static final class Law {
        // a step comes of each byte at most, and one ends the last line
        private static final int STEPS = TAPE + 1, OPEN = 6, DIGITS = 4, NAMES = 6;
        private static final int NUMBER = '#', NAME = 'n', NONE_OF = '!', MINUS = '~', ASK = '?', END = ';';
        private static final int COMPARED = 2, OPERAND = 5;

        private final int[] step = new int[STEPS];
        private final int[] value = new int[STEPS];
        private final int[] stack = new int[STEPS];
        private final int[] names = new int[NAMES];
        private int steps;
        private int top;
        private int[] text;
        private int length;
        private int place;

        boolean isTold() {
            return steps > 0;
        }

        /** Reads a text, of size bytes: its fault; -1: it has none. */
        int read(int[] bytes, int size) {
            text = bytes;
            length = Math.min(size, bytes.length);
            place = 0;
            steps = 0;
            boolean so = line();
            for (int lines = 1; lines < TAPE && so && takes(';'); lines++) {
                so = line();
            }
            return so && place == length ? -1 : place;
        }

        private boolean line() {
            boolean so = joined(0, 0);
            if (so && takes('?')) {
                int ask = steps;
                so = add(ASK, 0) && joined(0, 0) && add(END, 0);
                if (so) {
                    value[ask] = steps;
                }
                return so;
            }
            return so && add(END, 0);
        }

        /** What the signs of a level join: 0 |, 1 &, 2 < = >, 3 + -, 4 * / %, 5 an operand. */
        private boolean joined(int level, int open) {
            if (level >= OPERAND) {
                return operand(open);
            }
            boolean so = joined(level + 1, open);
            int most = level == COMPARED ? 1 : TAPE;
            for (int i = 0; i < most && so && place < length && levelOf(text[place]) == level; i++) {
                int sign = text[place];
                place++;
                so = joined(level + 1, open) && add(sign, 0);
            }
            return so;
        }

        private static int levelOf(int sign) {
            switch (sign) {
                case '|':
                    return 0;
                case '&':
                    return 1;
                case '<':
                case '=':
                case '>':
                    return COMPARED;
                case '+':
                case '-':
                    return 3;
                case '*':
                case '/':
                case '%':
                    return 4;
                default:
                    return OPERAND;
            }
        }

        private boolean operand(int open) {
            if (isDigit()) {
                return number();
            }
            if (place < length && nameOf(text[place]) >= 0) {
                add(NAME, nameOf(text[place]));
                place++;
                return true;
            }
            if (open >= OPEN) {
                return false;
            }
            if (takes('(')) {
                return joined(0, open + 1) && takes(')');
            }
            if (takes('!')) {
                return operand(open + 1) && add(NONE_OF, 0);
            }
            return takes('-') && operand(open + 1) && add(MINUS, 0);
        }

        private boolean number() {
            int v = 0;
            for (int i = 0; i < DIGITS && isDigit(); i++) {
                v = v * 10 + text[place] - '0';
                place++;
            }
            return add(NUMBER, v);
        }

        private boolean isDigit() {
            return place < length && within(text[place], '0', '9');
        }

        private static int nameOf(int sign) {
            switch (sign) {
                case 'b':
                    return 0;
                case 'k':
                    return 1;
                case 'd':
                    return 2;
                case 'h':
                    return 3;
                case 'g':
                    return 4;
                case 'f':
                    return 5;
                default:
                    return -1;
            }
        }

        private boolean takes(int sign) {
            if (place >= length || text[place] != sign) {
                return false;
            }
            place++;
            return true;
        }

        private boolean add(int sign, int v) {
            if (steps >= STEPS) {
                return false;
            }
            step[steps] = sign;
            value[steps] = v;
            steps++;
            return true;
        }

        /** What the text gives with b, k, d, h, g, f. */
        int worked(int b, int k, int d, int h, int g, int f) {
            names[0] = b;
            names[1] = k;
            names[2] = d;
            names[3] = h;
            names[4] = g;
            names[5] = f;
            top = 0;
            int next = 0;
            for (int at = 0; at < steps; at++) {
                if (at < next) {
                    continue;
                }
                int sign = step[at];
                switch (sign) {
                    case NUMBER:
                        push(value[at]);
                        break;
                    case NAME:
                        push(within(value[at], 0, NAMES - 1) ? names[value[at]] : 0);
                        break;
                    case END:
                        return pop();
                    case ASK:
                        next = pop() == 0 ? value[at] : 0;
                        break;
                    case NONE_OF:
                        push(pop() == 0 ? 1 : 0);
                        break;
                    case MINUS:
                        push(-pop());
                        break;
                    default:
                        int right = pop();
                        push(joinedBy(sign, pop(), right));
                        break;
                }
            }
            return 0;
        }

        private void push(int v) {
            if (top < STEPS) {
                stack[top] = v;
                top++;
            }
        }

        private int pop() {
            if (top <= 0) {
                return 0;
            }
            top--;
            return stack[top];
        }

        private static int joinedBy(int sign, int a, int b) {
            switch (sign) {
                case '|':
                    return a != 0 || b != 0 ? 1 : 0;
                case '&':
                    return a != 0 && b != 0 ? 1 : 0;
                case '<':
                    return a < b ? 1 : 0;
                case '=':
                    return a == b ? 1 : 0;
                case '>':
                    return a > b ? 1 : 0;
                case '+':
                    return a + b;
                case '-':
                    return a - b;
                case '*':
                    return a * b;
                case '/':
                    return b == 0 ? 0 : a / b;
                default:
                    return b == 0 ? 0 : a % b;
            }
        }
    }

    /** What a shelf holds: nothing, a reed, or a row (its elements as longs). */
    private static final class Shelf {
        final long[] elements = new long[ROW];
        Reed reed;
        int sort = -1;
        int size;

        boolean isBare() {
            return reed == null && sort < 0;
        }

        boolean isRow() {
            return sort >= 0;
        }

        boolean isBytes() {
            return sort == BYTES;
        }

        void hold(Reed held) {
            reed = held;
            sort = -1;
            size = 0;
        }

        void holdRow(int kind, int n) {
            reed = null;
            sort = kind;
            size = n;
            Arrays.fill(elements, 0);
        }

        boolean hasPart(int i, int n) {
            return n >= 0 && i >= 0 && i <= size - n;
        }

        long at(int i) {
            return hasPart(i, 1) ? elements[i] : 0;
        }

        void become(int i, long v) {
            switch (sort) {
                case BYTES:
                    elements[i] = (byte) v;
                    break;
                case SHORTS:
                    elements[i] = (short) v;
                    break;
                case INTS:
                    elements[i] = (int) v;
                    break;
                case LONGS:
                    elements[i] = v;
                    break;
                default:
                    elements[i] = v != 0 ? 1 : 0;
                    break;
            }
        }
    }

    /** A reed, with the bodies of LENDS and TELLS, which are its alone. */
    private static class Reed {
        final int kind;
        final int number;
        private final int[] ran;

        Reed(int kind, int number, int[] ran) {
            this.kind = kind;
            this.number = number;
            this.ran = ran;
        }

        final void begins(int body) {
            ran[0]++;
            // not by within(): Sigh's and Clock's tells would go nine calls deep
            if (ran[0] > 0 && ran[0] <= TRACE) {
                ran[ran[0]] = body;
            }
        }

        int lending(int x) {
            begins(1);
            return x + number;
        }

        int singing(int x) {
            begins(10);
            return lending(x) * 2;
        }

        int keeping(int x) {
            begins(11);
            return x ^ number;
        }

        int telling(int x) {
            begins(2);
            return singing(x) - keeping(1);
        }
    }

    private static class Muslin extends Reed {
        Muslin(int kind, int number, int[] ran) {
            super(kind, number, ran);
        }

        int lending(int x) {
            begins(20);
            return super.lending(x) + 3;
        }
    }

    private static class Ditch extends Reed {
        Ditch(int kind, int number, int[] ran) {
            super(kind, number, ran);
        }

        int singing(int x) {
            begins(30);
            return -super.singing(x);
        }
    }

    private static class Mill extends Ditch {
        Mill(int kind, int number, int[] ran) {
            super(kind, number, ran);
        }

        int keeping(int x) {
            begins(40);
            return super.keeping(x) * 3;
        }

        int singing(int x) {
            begins(41);
            return super.singing(x + 1);
        }
    }

    private static class Prince extends Muslin {
        Prince(int kind, int number, int[] ran) {
            super(kind, number, ran);
        }

        int keeping(int x) {
            begins(50);
            return super.keeping(x) - lending(2);
        }
    }

    private static final class Clock extends Mill {
        Clock(int kind, int number, int[] ran) {
            super(kind, number, ran);
        }

        int telling(int x) {
            begins(60);
            return super.telling(x) ^ 5;
        }
    }

    private static final class Lamp extends Reed {
        Lamp(int kind, int number, int[] ran) {
            super(kind, number, ran);
        }

        int lending(int x) {
            begins(70);
            return super.lending(x) * 2;
        }
    }

    private static final class Sigh extends Prince {
        Sigh(int kind, int number, int[] ran) {
            super(kind, number, ran);
        }

        int singing(int x) {
            begins(80);
            return super.singing(x) + keeping(2);
        }

        int telling(int x) {
            begins(81);
            return super.telling(x) - 1;
        }
    }
}
