/**
 * A carnival in which two who bow to one another change masks, bows that are only said by tenths to
 * have been made, and what all nights that hold tell of wearers, deeds and debts.
 *
 * <p>The promises stand in ../shared/DOC.md. No call makes an object: all rows are made here, once.
 */
public final class MaskBows {

    private static final int BEYOND = -1000000001;
    private static final int FULL = -1000000002;
    private static final int KIND = -1000000003;
    private static final int NONE = -1000000004;
    private static final int STATE = -1000000005;
    private static final int MISSING = -1000000006;
    private static final int SIZE = -1000000007;
    private static final int FINDINGS = 7;

    /** "There is none" among the classes of this file; it is never an answer itself. */
    private static final int NO = -1;

    private static final int FEWEST_PEOPLE = 2;
    private static final int MOST_PEOPLE = 8;
    private static final int HOURS = 100;
    private static final int SEEN = 10;
    private static final int MOST_BOWS = 20;
    private static final int MOST_DOUBTED = 6;
    private static final int MOST_NIGHTS = 64;
    private static final int MOST_SAYINGS = 10;
    private static final int MOST_DEEDS = 12;
    private static final int COINS_END = 1000;
    private static final int COINS_UNTOLD = 10;
    private static final int MOST_BYTES = 120;
    private static final int SHEETS = 4;
    private static final int MOST_NUMBERS = 40;

    private static final int BOW_HOUR = 0;
    private static final int BOW_ONE = 1;
    private static final int BOW_OTHER = 2;
    private static final int BOW_TENTHS = 3;
    private static final int BOW_PARTS = 4;

    private static final int SAYING_HOUR = 0;
    private static final int SAYING_MASK = 1;
    private static final int SAYING_PERSON = 2;
    private static final int SAYING_IS = 3;
    private static final int SAYING_PARTS = 4;

    private static final int DEED_KIND = 0;
    private static final int DEED_HOUR = 1;
    private static final int DEED_MASK = 2;
    private static final int DEED_OTHER = 3;
    private static final int DEED_COINS = 4;
    private static final int DEED_PARTS = 5;
    private static final int DEED_PAYS = 5;
    private static final int DEED_BINDS = 6;

    private static final int DEBT = 1;
    private static final int DUEL = 2;
    private static final int KISS = 3;
    private static final int VOW = 4;
    private static final int THEFT = 5;
    private static final int KINDS = 6;
    /** For each kind the one it stands under. */
    private static final int[] KIND_ABOVE = {-1, 0, 0, 0, 3, 1};

    private static final int RULE = 0;
    private static final int BELIEVED = 1;

    private final Carnival live = new Carnival();
    private final Carnival kept = new Carnival();
    private final Carnival draft = new Carnival();
    private final Nights table = new Nights(live);
    private final DeedBook book = new DeedBook(live, table);
    private final Tape tape = new Tape();
    private final Reader reader = new Reader(tape, draft);
    private final Sheet[] sheets = new Sheet[SHEETS];
    private final int[] findings = new int[FINDINGS];
    private boolean isKept = false;

    public MaskBows() {
        for (int s = 0; s < SHEETS; s++) {
            sheets[s] = new Sheet();
        }
    }

    // ---- the night

    public int people(int n) {
        if (n < FEWEST_PEOPLE || n > MOST_PEOPLE) {
            return found(BEYOND);
        }
        if (!live.isEmpty()) {
            return found(STATE);
        }
        int before = live.people;
        live.people = n;
        table.forget();
        return before;
    }

    public int bow(int hour, int one, int other, int tenths) {
        if (!isHour(hour) || !areUnlike(one, other) || !areTenths(tenths)) {
            return found(BEYOND);
        }
        if (live.bows.isFull() || (tenths < SEEN && !live.hasRoomForDoubt())) {
            return found(FULL);
        }
        table.forget();
        return live.bows.add(hour, one, other, tenths);
    }

    public int bowOf(int bow, int what) {
        if (!live.bows.has(bow) || what < 0 || what >= BOW_PARTS) {
            return found(BEYOND);
        }
        return live.bows.cell(bow, what);
    }

    public int doubt(int bow, int v) {
        if (!live.bows.has(bow) || !areTenths(v)) {
            return found(BEYOND);
        }
        if (!live.mayHaveTenths(bow, v)) {
            return found(FULL);
        }
        table.forget();
        return live.bows.put(bow, BOW_TENTHS, v);
    }

    public int let(int what, boolean is) {
        if (what != RULE && what != BELIEVED) {
            return found(BEYOND);
        }
        if (live.isSwitchedOn(what) == is) {
            return 0;
        }
        live.switchTo(what, is);
        table.forget();
        return 1;
    }

    public int says(int hour, int mask, int person, boolean is) {
        if (!isHour(hour) || !isPerson(mask) || !isPerson(person)) {
            return found(BEYOND);
        }
        if (live.sayings.isFull()) {
            return found(FULL);
        }
        table.forget();
        return live.sayings.add(hour, mask, person, is ? 1 : 0);
    }

    public int sayingOf(int saying, int what) {
        if (!live.sayings.has(saying) || what < 0 || what >= SAYING_PARTS) {
            return found(BEYOND);
        }
        return live.sayings.cell(saying, what);
    }

    // ---- nights that hold

    public int nights() {
        return fresh().howManyHold();
    }

    public long all() {
        return fresh().allWeights();
    }

    public int likeliest() {
        if (!fresh().someHolds()) {
            return found(NONE);
        }
        return table.bowsMadeIn(table.likeliestNight());
    }

    public int wore(int mask, int hour) {
        if (!isPerson(mask) || !isHour(hour)) {
            return found(BEYOND);
        }
        return orNone(onlyOneOf(fresh().wearersOf(mask, hour)));
    }

    public int may(int mask, int hour) {
        if (!isPerson(mask) || !isHour(hour)) {
            return found(BEYOND);
        }
        return fresh().wearersOf(mask, hour);
    }

    public long odds(int mask, int person, int hour) {
        if (!isPerson(mask) || !isPerson(person) || !isHour(hour)) {
            return found(BEYOND);
        }
        return fresh().oddsOf(mask, person, hour);
    }

    public int behind(int person, int hour) {
        if (!isPerson(person) || !isHour(hour)) {
            return found(BEYOND);
        }
        return orNone(onlyOneOf(fresh().masksOf(person, hour)));
    }

    public int met(int person) {
        if (!isPerson(person)) {
            return found(BEYOND);
        }
        return fresh().metBy(person);
    }

    public int lie() {
        return orNone(fresh().firstLie());
    }

    // ---- deeds

    public int deed(int kind, int hour, int mask, int other, int coins) {
        if (!isKind(kind) || !isHour(hour) || !areUnlike(mask, other) || coins < 0 || coins >= COINS_END) {
            return found(BEYOND);
        }
        if (live.deeds.isFull()) {
            return found(FULL);
        }
        return live.addDeed(kind, hour, mask, other, coins);
    }

    public int deedOf(int deed, int what) {
        if (!live.deeds.has(deed)) {
            return found(BEYOND);
        }
        if (what == DEED_PAYS) {
            return book.paysOf(deed);
        }
        if (what == DEED_BINDS) {
            return book.binds(deed) ? 1 : 0;
        }
        if (what < 0 || what >= DEED_PARTS) {
            return found(BEYOND);
        }
        return live.deeds.cell(deed, what);
    }

    public int turn(int deed, int kind) {
        if (!live.deeds.has(deed) || !isKind(kind)) {
            return found(BEYOND);
        }
        return live.deeds.put(deed, DEED_KIND, kind);
    }

    public int as(int deed, int kind) {
        if (!live.deeds.has(deed) || !isKind(kind)) {
            return found(BEYOND);
        }
        if (!isOfKind(live.deeds.cell(deed, DEED_KIND), kind)) {
            return found(KIND);
        }
        return live.deeds.cell(deed, DEED_COINS);
    }

    public int who(int deed, int what) {
        if (!live.deeds.has(deed) || what < 0 || what > 1) {
            return found(BEYOND);
        }
        fresh();
        return orNone(onlyOneOf(what == 0 ? book.doersOf(deed) : book.othersOf(deed)));
    }

    public long same(int one, int other) {
        if (!live.deeds.has(one) || !live.deeds.has(other) || one == other) {
            return found(BEYOND);
        }
        fresh();
        return book.oddsOfOneDoer(one, other);
    }

    public long owes(int person) {
        if (!isPerson(person)) {
            return found(BEYOND);
        }
        fresh();
        return book.owedInAllBy(person);
    }

    public int owesTo(int one, int other) {
        if (!areUnlike(one, other)) {
            return found(BEYOND);
        }
        if (!fresh().someHolds()) {
            return found(NONE);
        }
        return book.owedInNight(table.likeliestNight(), one, other);
    }

    public long bound(int one, int other) {
        if (!areUnlike(one, other)) {
            return found(BEYOND);
        }
        fresh();
        return book.oddsOfBond(one, other);
    }

    // ---- doubts

    public int ask() {
        return orNone(fresh().mostOpenDoubt());
    }

    public int witnesses() {
        fresh();
        return table.bowsOfDoubts(book.fewestThatSettle());
    }

    public int unsure() {
        fresh();
        int set = 0;
        for (int deed = 0; deed < live.deeds.size(); deed++) {
            if (onlyOneOf(book.doersOf(deed)) == NO) {
                set |= 1 << deed;
            }
        }
        return set;
    }

    // ---- home

    public int home() {
        if (!fresh().someHolds()) {
            return found(NONE);
        }
        int bows = 0;
        while (bows < MOST_PEOPLE && bowHomeward(bows) != NO) {
            bows++;
        }
        return bows;
    }

    public int homeBow(int i) {
        if (i < 0) {
            return found(BEYOND);
        }
        if (!fresh().someHolds()) {
            return found(NONE);
        }
        return orNone(bowHomeward(i));
    }

    public int atHome(int hour) {
        if (!isHour(hour)) {
            return found(BEYOND);
        }
        if (!fresh().someHolds()) {
            return found(NONE);
        }
        int row = likeliestRow(hour);
        int set = 0;
        for (int person = 0; person < live.people; person++) {
            if (wearer(row, person) == person) {
                set |= 1 << person;
            }
        }
        return set;
    }

    public int since(int person) {
        if (!isPerson(person)) {
            return found(BEYOND);
        }
        if (!fresh().someHolds()) {
            return found(NONE);
        }
        int first = HOURS;
        while (first > 0 && wearer(likeliestRow(first - 1), person) == person) {
            first--;
        }
        return first == HOURS ? found(NONE) : first;
    }

    // ---- the text

    public int feed(int bytes, int n) {
        if (n < 1 || n > 4) {
            return found(BEYOND);
        }
        if (tape.length() + n > MOST_BYTES) {
            return found(FULL);
        }
        for (int i = n - 1; i >= 0; i--) {
            tape.add((bytes >>> (8 * i)) & 255);
        }
        return tape.length();
    }

    public int wipe() {
        return tape.clear();
    }

    public int carnival() {
        draft.become(live);
        int answer = reader.items();
        tape.clear();
        if (answer > 0) {
            live.become(draft);
            table.forget();
        }
        return answer;
    }

    // ---- sheets

    public int sheet(int s, int bits, int n) {
        Sheet sheet = sheetAt(s);
        if (sheet == null || (bits != 0 && bits != 8 && bits != 16 && bits != 64)) {
            return found(BEYOND);
        }
        if (n < 0) {
            return found(SIZE);
        }
        if (n > MOST_NUMBERS) {
            return found(BEYOND);
        }
        sheet.begin(bits, n);
        return sheet.length();
    }

    public long write(int s, int i, long v) {
        Sheet sheet = sheetAt(s);
        if (sheet == null) {
            return found(BEYOND);
        }
        if (sheet.isMissing()) {
            return found(MISSING);
        }
        if (!sheet.has(i)) {
            return found(BEYOND);
        }
        return sheet.put(i, v);
    }

    public int copy(int s, int from, int t, int to, int n) {
        Sheet source = sheetAt(s);
        Sheet target = sheetAt(t);
        if (source == null || target == null) {
            return found(BEYOND);
        }
        if (source.isMissing() || target.isMissing()) {
            return found(MISSING);
        }
        if (source.bits() != target.bits()) {
            return found(KIND);
        }
        if (!source.hasRun(from, n) || !target.hasRun(to, n)) {
            return found(BEYOND);
        }
        target.takeRun(source, from, to, n);
        return n;
    }

    public int lays(int s) {
        Sheet sheet = sheetAt(s);
        if (sheet == null) {
            return found(BEYOND);
        }
        if (sheet.isMissing()) {
            return found(MISSING);
        }
        table.forget();
        int came = 0;
        int most = Math.min(sheet.length(), live.bows.size());
        for (int bow = 0; bow < most; bow++) {
            long v = sheet.number(bow);
            if (v >= 0 && v <= SEEN && live.mayHaveTenths(bow, (int) v)) {
                live.bows.put(bow, BOW_TENTHS, (int) v);
                came++;
            }
        }
        return came;
    }

    public int ledger(int s, int hour) {
        int finding = findingOfSheetAndHour(s, hour);
        if (finding != 0) {
            return found(finding);
        }
        Sheet sheet = sheetAt(s);
        if (sheet == null || !fresh().someHolds()) {
            return found(NONE);
        }
        int row = likeliestRow(hour);
        int most = Math.min(sheet.length(), live.people);
        for (int mask = 0; mask < most; mask++) {
            sheet.put(mask, wearer(row, mask));
        }
        return most;
    }

    public long read(int s, int hour) {
        int finding = findingOfSheetAndHour(s, hour);
        if (finding != 0) {
            return found(finding);
        }
        return fresh().oddsOfSheet(sheetAt(s), hour);
    }

    // ---- images

    public int image() {
        kept.become(live);
        isKept = true;
        return 1;
    }

    public int undo() {
        if (!isKept) {
            return found(NONE);
        }
        live.become(kept);
        table.forget();
        return live.bows.size();
    }

    public int tear() {
        int before = isKept ? 1 : 0;
        isKept = false;
        return before;
    }

    public int count(int what) {
        switch (what) {
            case 0:
                return live.people;
            case 1:
                return live.bows.size();
            case 2:
                return live.doubted();
            case 3:
                return live.deeds.size();
            case 4:
                return live.sayings.size();
            case 5:
                return tape.length();
            default:
                return found(BEYOND);
        }
    }

    public int status(int which) {
        if (which < -1 || which >= FINDINGS) {
            return found(BEYOND);
        }
        int sum = 0;
        for (int i = 0; i < FINDINGS; i++) {
            if (which == -1 || which == i) {
                sum += findings[i];
            }
        }
        return sum;
    }

    // ---- what the calls share

    private int found(int finding) {
        int which = BEYOND - finding;
        if (which >= 0 && which < FINDINGS) {
            findings[which]++;
        }
        return finding;
    }

    private int orNone(int answer) {
        return answer == NO ? found(NONE) : answer;
    }

    private Nights fresh() {
        table.lookAnew();
        return table;
    }

    /** There are as many masks as persons: this is the test of both. */
    private boolean isPerson(int person) {
        return person >= 0 && person < live.people;
    }

    private boolean areUnlike(int one, int other) {
        return isPerson(one) && isPerson(other) && one != other;
    }

    private Sheet sheetAt(int s) {
        return s >= 0 && s < SHEETS ? sheets[s] : null;
    }

    private int findingOfSheetAndHour(int s, int hour) {
        Sheet sheet = sheetAt(s);
        if (sheet == null) {
            return BEYOND;
        }
        if (sheet.isMissing()) {
            return MISSING;
        }
        return isHour(hour) ? 0 : BEYOND;
    }

    private int likeliestRow(int hour) {
        return table.row(table.likeliestNight(), hour);
    }

    /** A bow brings its lesser mask home for good, so that one walk over the masks meets all bows. */
    private int bowHomeward(int i) {
        int row = likeliestRow(HOURS - 1);
        int made = 0;
        for (int mask = 0; mask < live.people; mask++) {
            int other = maskOf(row, mask);
            if (other != mask) {
                if (made == i) {
                    return 10 * mask + other;
                }
                row = changed(row, mask, other);
                made++;
            }
        }
        return NO;
    }

    private static boolean isHour(int hour) {
        return hour >= 0 && hour < HOURS;
    }

    private static boolean areTenths(int tenths) {
        return tenths >= 0 && tenths <= SEEN;
    }

    private static boolean isKind(int kind) {
        return kind >= 0 && kind < KINDS;
    }

    private static boolean isOfKind(int kind, int above) {
        int at = kind;
        for (int level = 0; level < KINDS && isKind(at); level++) {
            if (at == above) {
                return true;
            }
            at = KIND_ABOVE[at];
        }
        return false;
    }

    private static int onlyOneOf(int set) {
        for (int i = 0; i < MOST_PEOPLE; i++) {
            if (set == 1 << i) {
                return i;
            }
        }
        return NO;
    }

    // ---- rows of wearers: one number, three bits a mask

    /** Each mask worn by its own person: the octal digits are the persons, mask 0's the last. */
    private static final int ALL_AT_HOME = 076543210;

    private static int wearer(int row, int mask) {
        return (row >> (3 * mask)) & 7;
    }

    private static int maskOf(int row, int person) {
        for (int mask = 0; mask < MOST_PEOPLE; mask++) {
            if (wearer(row, mask) == person) {
                return mask;
            }
        }
        return NO;
    }

    private static int changed(int row, int one, int other) {
        int unlike = wearer(row, one) ^ wearer(row, other);
        return row ^ (unlike << (3 * one)) ^ (unlike << (3 * other));
    }

    /** Numbered rows of numbers, as many as the document lets there be. */
    private static final class Rows {
        private final int limit;
        private final int width;
        private final int[] cells;
        private int size = 0;

        Rows(int limit, int width) {
            this.limit = limit;
            this.width = width;
            this.cells = new int[Math.max(0, limit * width)];
        }

        int size() {
            return size;
        }

        boolean isFull() {
            return size >= limit;
        }

        boolean has(int row) {
            return row >= 0 && row < size;
        }

        int cell(int row, int column) {
            if (row < 0 || row >= size || column < 0 || column >= width) {
                return 0;
            }
            return cells[row * width + column];
        }

        int put(int row, int column, int v) {
            if (row < 0 || row >= size || column < 0 || column >= width) {
                return 0;
            }
            int before = cells[row * width + column];
            cells[row * width + column] = v;
            return before;
        }

        int add(int first, int second, int third, int fourth) {
            if (isFull()) {
                return NO;
            }
            int row = size;
            size++;
            put(row, 0, first);
            put(row, 1, second);
            put(row, 2, third);
            put(row, 3, fourth);
            return row;
        }

        void become(Rows other) {
            size = Math.min(other.size, limit);
            System.arraycopy(other.cells, 0, cells, 0, Math.min(cells.length, other.cells.length));
        }
    }

    /** What section 1 tells, but for the tape: what an image keeps. */
    private static final class Carnival {
        private final Rows bows = new Rows(MOST_BOWS, BOW_PARTS);
        private final Rows sayings = new Rows(MOST_SAYINGS, SAYING_PARTS);
        private final Rows deeds = new Rows(MOST_DEEDS, DEED_PARTS);
        private int people = 4;
        private boolean rule = false;
        private boolean believed = false;

        void become(Carnival other) {
            bows.become(other.bows);
            sayings.become(other.sayings);
            deeds.become(other.deeds);
            people = other.people;
            rule = other.rule;
            believed = other.believed;
        }

        boolean isEmpty() {
            return bows.size() == 0 && sayings.size() == 0 && deeds.size() == 0;
        }

        boolean isDoubted(int bow) {
            return bows.cell(bow, BOW_TENTHS) < SEEN;
        }

        int doubted() {
            int sum = 0;
            for (int bow = 0; bow < bows.size(); bow++) {
                if (bows.cell(bow, BOW_TENTHS) < SEEN) {
                    sum++;
                }
            }
            return sum;
        }

        boolean hasRoomForDoubt() {
            return doubted() < MOST_DOUBTED;
        }

        boolean mayHaveTenths(int bow, int tenths) {
            return tenths == SEEN || isDoubted(bow) || hasRoomForDoubt();
        }

        boolean isSwitchedOn(int what) {
            return what == RULE ? rule : believed;
        }

        void switchTo(int what, boolean is) {
            if (what == RULE) {
                rule = is;
            } else {
                believed = is;
            }
        }

        int addDeed(int kind, int hour, int mask, int other, int coins) {
            int deed = deeds.add(kind, hour, mask, other);
            deeds.put(deed, DEED_COINS, coins);
            return deed;
        }
    }

    /**
     * All nights of a carnival. A night's number is the set of doubted bows made in it, a bit for
     * each by their order; as seen bows are made in all, such sets stand in the order of the sets
     * of all bows.
     */
    private static final class Nights {
        private static final int STEPS = MOST_BOWS + 1;

        private final Carnival carnival;
        private final int[] order = new int[MOST_BOWS];
        private final int[] stepsAt = new int[HOURS];
        private final int[] doubts = new int[MOST_DOUBTED];
        /** 0 for a night that does not hold. */
        private final int[] weights = new int[MOST_NIGHTS];
        /** For each night the rows of wearers ahead of all bows, behind one, behind two, .. */
        private final int[] rows = new int[MOST_NIGHTS * STEPS];
        private final int[] metEver = new int[MOST_PEOPLE];
        private final int[] bowedTo = new int[MOST_PEOPLE];
        private boolean isStale = true;
        private int bowCount = 0;
        private int doubtCount = 0;
        private int seenBows = 0;
        private int likeliest = NO;
        private int mostSayingsSo = 0;

        Nights(Carnival carnival) {
            this.carnival = carnival;
        }

        void forget() {
            isStale = true;
        }

        void lookAnew() {
            if (!isStale) {
                return;
            }
            isStale = false;
            bowCount = Math.min(carnival.bows.size(), MOST_BOWS);
            orderBows();
            countSteps();
            findDoubts();
            likeliest = NO;
            mostSayingsSo = 0;
            for (int person = 0; person < MOST_PEOPLE; person++) {
                metEver[person] = 0;
            }
            for (int night = 0; night < size(); night++) {
                weights[night] = 0;
                judge(night, weightOf(night));
            }
        }

        /** How many nights there are, whether they hold or not. */
        int size() {
            return 1 << doubtCount;
        }

        boolean holds(int night) {
            return weight(night) > 0;
        }

        int weight(int night) {
            return night >= 0 && night < size() ? weights[night] : 0;
        }

        boolean someHolds() {
            return likeliest != NO;
        }

        int likeliestNight() {
            return likeliest;
        }

        /** The row of wearers behind all bows of hours up to this one. */
        int row(int night, int hour) {
            if (night < 0 || night >= MOST_NIGHTS || hour < 0 || hour >= HOURS) {
                return ALL_AT_HOME;
            }
            return rows[night * STEPS + stepsAt[hour]];
        }

        int bowsOfDoubts(int set) {
            int bows = 0;
            for (int i = 0; i < doubtCount; i++) {
                if ((set >> i & 1) == 1) {
                    bows |= 1 << doubts[i];
                }
            }
            return bows;
        }

        int bowsMadeIn(int night) {
            return seenBows | bowsOfDoubts(night);
        }

        int howManyHold() {
            int sum = 0;
            for (int night = 0; night < size(); night++) {
                if (holds(night)) {
                    sum++;
                }
            }
            return sum;
        }

        long allWeights() {
            long sum = 0;
            for (int night = 0; night < size(); night++) {
                sum += weight(night);
            }
            return sum;
        }

        int wearersOf(int mask, int hour) {
            int set = 0;
            for (int night = 0; night < size(); night++) {
                if (holds(night)) {
                    set |= 1 << wearer(row(night, hour), mask);
                }
            }
            return set;
        }

        int masksOf(int person, int hour) {
            int set = 0;
            for (int night = 0; night < size(); night++) {
                if (holds(night)) {
                    set |= 1 << maskOf(row(night, hour), person);
                }
            }
            return set;
        }

        long oddsOf(int mask, int person, int hour) {
            long sum = 0;
            for (int night = 0; night < size(); night++) {
                if (wearer(row(night, hour), mask) == person) {
                    sum += weight(night);
                }
            }
            return sum;
        }

        long oddsOfSheet(Sheet sheet, int hour) {
            long sum = 0;
            for (int night = 0; night < size(); night++) {
                if (sheet != null && sheet.tells(row(night, hour), carnival.people)) {
                    sum += weight(night);
                }
            }
            return sum;
        }

        int metBy(int person) {
            return person >= 0 && person < MOST_PEOPLE ? metEver[person] : 0;
        }

        int firstLie() {
            return mostSayingsSo < carnival.sayings.size() ? mostSayingsSo : NO;
        }

        int mostOpenDoubt() {
            int best = NO;
            long least = 0;
            long together = allWeights();
            for (int i = 0; i < doubtCount && someHolds(); i++) {
                long made = oddsOfMade(i);
                long greater = Math.max(made, together - made);
                if (best == NO || greater < least) {
                    best = doubts[i];
                    least = greater;
                }
            }
            return best;
        }

        private long oddsOfMade(int doubt) {
            long sum = 0;
            for (int night = 0; night < size(); night++) {
                if ((night >> doubt & 1) == 1) {
                    sum += weight(night);
                }
            }
            return sum;
        }

        private int hourOf(int bow) {
            return carnival.bows.cell(bow, BOW_HOUR);
        }

        private void orderBows() {
            for (int bow = 0; bow < bowCount; bow++) {
                int at = bow;
                while (at > 0 && hourOf(order[at - 1]) > hourOf(bow)) {
                    order[at] = order[at - 1];
                    at--;
                }
                order[at] = bow;
            }
        }

        private void countSteps() {
            int step = 0;
            for (int hour = 0; hour < HOURS; hour++) {
                while (step < bowCount && hourOf(order[step]) <= hour) {
                    step++;
                }
                stepsAt[hour] = step;
            }
        }

        private void findDoubts() {
            doubtCount = 0;
            seenBows = 0;
            for (int bow = 0; bow < bowCount; bow++) {
                if (!carnival.isDoubted(bow)) {
                    seenBows |= 1 << bow;
                } else if (doubtCount < MOST_DOUBTED) {
                    doubts[doubtCount] = bow;
                    doubtCount++;
                }
            }
        }

        private int weightOf(int night) {
            int weight = 1;
            for (int i = 0; i < doubtCount; i++) {
                int tenths = carnival.bows.cell(doubts[i], BOW_TENTHS);
                weight *= (night >> i & 1) == 1 ? tenths : 10 - tenths;
            }
            return weight;
        }

        private void judge(int night, int weight) {
            if (weight == 0) {
                return;
            }
            boolean twice = makeBows(night);
            if (twice && carnival.rule) {
                return;
            }
            int so = sayingsSo(night);
            mostSayingsSo = Math.max(mostSayingsSo, so);
            if (so < carnival.sayings.size() && carnival.believed) {
                return;
            }
            weights[night] = weight;
            for (int person = 0; person < MOST_PEOPLE; person++) {
                metEver[person] |= bowedTo[person];
            }
            if (weight > weight(likeliest)) {
                likeliest = night;
            }
        }

        /** Fills in the rows of a night: whether two bowed to one another twice. */
        private boolean makeBows(int night) {
            for (int person = 0; person < MOST_PEOPLE; person++) {
                bowedTo[person] = 0;
            }
            int made = bowsMadeIn(night);
            int row = ALL_AT_HOME;
            boolean twice = false;
            rows[night * STEPS] = row;
            for (int step = 0; step < bowCount; step++) {
                int bow = order[step];
                if ((made >> bow & 1) == 1) {
                    int one = carnival.bows.cell(bow, BOW_ONE);
                    int other = carnival.bows.cell(bow, BOW_OTHER);
                    twice |= noteBow(wearer(row, one), wearer(row, other));
                    row = changed(row, one, other);
                }
                rows[night * STEPS + step + 1] = row;
            }
            return twice;
        }

        private boolean noteBow(int one, int other) {
            boolean again = (bowedTo[one] >> other & 1) == 1;
            bowedTo[one] |= 1 << other;
            bowedTo[other] |= 1 << one;
            return again;
        }

        /** How many sayings are so in a night ahead of the first that isn't. */
        private int sayingsSo(int night) {
            int saying = 0;
            while (saying < carnival.sayings.size() && isSo(saying, night)) {
                saying++;
            }
            return saying;
        }

        private boolean isSo(int saying, int night) {
            Rows sayings = carnival.sayings;
            int row = row(night, sayings.cell(saying, SAYING_HOUR));
            int person = wearer(row, sayings.cell(saying, SAYING_MASK));
            boolean told = sayings.cell(saying, SAYING_IS) == 1;
            return (person == sayings.cell(saying, SAYING_PERSON)) == told;
        }
    }

    /** What the nights that hold tell of deeds. */
    private static final class DeedBook {
        private final Carnival carnival;
        private final Nights table;
        /** For each night that holds the doers of all deeds, three bits a deed; else NO. */
        private final long[] doers = new long[MOST_NIGHTS];
        /** Sets of doubts in which two nights with unlike doers differ: one of each must be known. */
        private final boolean[] isTelling = new boolean[MOST_NIGHTS];

        DeedBook(Carnival carnival, Nights table) {
            this.carnival = carnival;
            this.table = table;
        }

        int paysOf(int deed) {
            int coins = part(deed, DEED_COINS);
            switch (part(deed, DEED_KIND)) {
                case DEBT:
                    return coins;
                case DUEL:
                    return -(coins / 10);
                case KISS:
                    return 1;
                case VOW:
                    return 1 + coins / 2;
                case THEFT:
                    return 2 * coins;
                default:
                    return 0;
            }
        }

        boolean binds(int deed) {
            return isOfKind(part(deed, DEED_KIND), VOW);
        }

        int doersOf(int deed) {
            return table.wearersOf(part(deed, DEED_MASK), part(deed, DEED_HOUR));
        }

        int othersOf(int deed) {
            return table.wearersOf(part(deed, DEED_OTHER), part(deed, DEED_HOUR));
        }

        long oddsOfOneDoer(int one, int other) {
            long sum = 0;
            for (int night = 0; night < table.size(); night++) {
                if (doerIn(night, one) == doerIn(night, other)) {
                    sum += table.weight(night);
                }
            }
            return sum;
        }

        long owedInAllBy(int person) {
            long sum = 0;
            for (int deed = 0; deed < carnival.deeds.size(); deed++) {
                int hour = part(deed, DEED_HOUR);
                long asDoer = table.oddsOf(part(deed, DEED_MASK), person, hour);
                long asOther = table.oddsOf(part(deed, DEED_OTHER), person, hour);
                sum += paysOf(deed) * (asDoer - asOther);
            }
            return sum;
        }

        int owedInNight(int night, int one, int other) {
            int sum = 0;
            for (int deed = 0; deed < carnival.deeds.size(); deed++) {
                if (isBetween(night, deed, one, other)) {
                    sum += paysOf(deed);
                } else if (isBetween(night, deed, other, one)) {
                    sum -= paysOf(deed);
                }
            }
            return sum;
        }

        long oddsOfBond(int one, int other) {
            long sum = 0;
            for (int night = 0; night < table.size(); night++) {
                if (table.holds(night) && areBoundIn(night, one, other)) {
                    sum += table.weight(night);
                }
            }
            return sum;
        }

        /** To know of all doubts settles every deed, so that this begins with all of them. */
        int fewestThatSettle() {
            noteDoers();
            noteTellingSets();
            int best = table.size() - 1;
            for (int set = 0; set < table.size(); set++) {
                if (Integer.bitCount(set) < Integer.bitCount(best) && settles(set)) {
                    best = set;
                }
            }
            return best;
        }

        private void noteDoers() {
            for (int night = 0; night < table.size(); night++) {
                long row = 0;
                for (int deed = 0; deed < carnival.deeds.size(); deed++) {
                    row = (row << 3) | doerIn(night, deed);
                }
                doers[night] = table.holds(night) ? row : NO;
            }
        }

        private void noteTellingSets() {
            int nights = table.size();
            for (int set = 0; set < nights; set++) {
                isTelling[set] = false;
            }
            for (int night = 1; night < nights; night++) {
                for (int other = 0; other < night; other++) {
                    if (doers[night] != NO && doers[other] != NO && doers[night] != doers[other]) {
                        isTelling[night ^ other] = true;
                    }
                }
            }
        }

        private boolean settles(int set) {
            int nights = table.size();
            for (int telling = 1; telling < nights; telling++) {
                if (isTelling[telling] && (telling & set) == 0) {
                    return false;
                }
            }
            return true;
        }

        private boolean areBoundIn(int night, int one, int other) {
            for (int deed = 0; deed < carnival.deeds.size(); deed++) {
                if (binds(deed) && (isBetween(night, deed, one, other) || isBetween(night, deed, other, one))) {
                    return true;
                }
            }
            return false;
        }

        private boolean isBetween(int night, int deed, int doer, int doneTo) {
            int row = table.row(night, part(deed, DEED_HOUR));
            return wearer(row, part(deed, DEED_MASK)) == doer && wearer(row, part(deed, DEED_OTHER)) == doneTo;
        }

        private int doerIn(int night, int deed) {
            return wearer(table.row(night, part(deed, DEED_HOUR)), part(deed, DEED_MASK));
        }

        private int part(int deed, int what) {
            return carnival.deeds.cell(deed, what);
        }
    }

    /** A row of numbers of so many bits; of 0 bits it is missing. */
    private static final class Sheet {
        private final long[] numbers = new long[MOST_NUMBERS];
        private int bits = 0;
        private int length = 0;

        void begin(int newBits, int n) {
            bits = newBits;
            length = newBits == 0 ? 0 : Math.max(0, Math.min(n, MOST_NUMBERS));
            for (int i = 0; i < length; i++) {
                numbers[i] = 0;
            }
        }

        boolean isMissing() {
            return bits == 0;
        }

        int bits() {
            return bits;
        }

        int length() {
            return length;
        }

        boolean has(int i) {
            return i >= 0 && i < length;
        }

        /** Written so that no sum can run over. */
        boolean hasRun(int from, int n) {
            return n >= 0 && n <= length && from >= 0 && from <= length - n;
        }

        long number(int i) {
            return has(i) ? numbers[i] : 0;
        }

        long put(int i, long v) {
            if (!has(i)) {
                return 0;
            }
            long before = numbers[i];
            numbers[i] = cut(v);
            return before;
        }

        void takeRun(Sheet source, int from, int to, int n) {
            if (source.hasRun(from, n) && hasRun(to, n)) {
                System.arraycopy(source.numbers, from, numbers, to, n);
            }
        }

        /** Whether its numbers are the wearers of masks 0, 1, .., as many as there are of both. */
        boolean tells(int row, int people) {
            int most = Math.min(length, people);
            for (int mask = 0; mask < most; mask++) {
                if (numbers[mask] != wearer(row, mask)) {
                    return false;
                }
            }
            return true;
        }

        private long cut(long v) {
            switch (bits) {
                case 8:
                    return (byte) v;
                case 16:
                    return (short) v;
                default:
                    return v;
            }
        }
    }

    /** The bytes from which a text is read. */
    private static final class Tape {
        private final int[] bytes = new int[MOST_BYTES];
        private int length = 0;

        int length() {
            return length;
        }

        void add(int value) {
            if (length < MOST_BYTES) {
                bytes[length] = value;
                length++;
            }
        }

        int clear() {
            int before = length;
            length = 0;
            return before;
        }

        /** Behind the end there is no byte. */
        int at(int place) {
            return place >= 0 && place < length ? bytes[place] : NO;
        }
    }

    /** Reads the text of a carnival, token by token, into a draft. */
    private static final class Reader {
        private static final int END = 0;
        private static final int WORD = 1;
        private static final int NUMBER = 2;
        private static final int SIGN = 3;
        private static final int STRANGE = 4;

        private final Tape tape;
        private final Carnival draft;
        private int token = END;
        /** Where the token begins, and where what follows it does. */
        private int place = 0;
        private int behindIt = 0;
        private int value = 0;

        Reader(Tape tape, Carnival draft) {
            this.tape = tape;
            this.draft = draft;
        }

        /** How many items came to the draft, or -1 less the place of the fault. */
        int items() {
            behindIt = 0;
            step();
            for (int items = 1; items <= MOST_BYTES && item(); items++) {
                if (token == END) {
                    return items;
                }
                if (token != SIGN) {
                    return -1 - place;
                }
                step();
            }
            return -1 - place;
        }

        /** Each reading of a part steps behind it if it may stand there, and else stays at the fault. */
        private boolean item() {
            if (isWord("bow")) {
                return bowItem();
            }
            if (isWord("says")) {
                return sayingItem();
            }
            if (isWord("rule")) {
                return switchItem(RULE);
            }
            if (isWord("believe")) {
                return switchItem(BELIEVED);
            }
            for (int kind = 0; kind < KINDS; kind++) {
                if (isWord(nameOf(kind))) {
                    return deedItem(kind);
                }
            }
            return false;
        }

        private boolean bowItem() {
            if (draft.bows.isFull()) {
                return false;
            }
            step();
            int hour = number(HOURS);
            int one = hour == NO ? NO : number(draft.people);
            int other = one == NO || isNumber(one) ? NO : number(draft.people);
            if (other == NO) {
                return false;
            }
            int tenths = SEEN;
            if (isWord("doubt")) {
                if (!draft.hasRoomForDoubt()) {
                    return false;
                }
                step();
                tenths = number(SEEN);
            }
            return tenths != NO && draft.bows.add(hour, one, other, tenths) != NO;
        }

        private boolean sayingItem() {
            if (draft.sayings.isFull()) {
                return false;
            }
            step();
            int hour = number(HOURS);
            int mask = hour == NO ? NO : number(draft.people);
            int is = mask == NO ? NO : oneOf("not", "is");
            int person = is == NO ? NO : number(draft.people);
            return person != NO && draft.sayings.add(hour, mask, person, is) != NO;
        }

        private boolean deedItem(int kind) {
            if (draft.deeds.isFull()) {
                return false;
            }
            step();
            int hour = number(HOURS);
            int mask = hour == NO ? NO : number(draft.people);
            if (mask == NO || !isWord("to")) {
                return false;
            }
            step();
            int other = isNumber(mask) ? NO : number(draft.people);
            if (other == NO) {
                return false;
            }
            int coins = COINS_UNTOLD;
            if (isWord("coins")) {
                step();
                coins = number(COINS_END);
            }
            return coins != NO && draft.addDeed(kind, hour, mask, other, coins) != NO;
        }

        private boolean switchItem(int what) {
            step();
            int is = oneOf("off", "on");
            if (is == NO) {
                return false;
            }
            draft.switchTo(what, is == 1);
            return true;
        }

        private int number(int end) {
            if (token != NUMBER || value >= end) {
                return NO;
            }
            int taken = value;
            step();
            return taken;
        }

        private boolean isNumber(int v) {
            return token == NUMBER && value == v;
        }

        /** 0 for the first word, 1 for the second. */
        private int oneOf(String first, String second) {
            int which = isWord(first) ? 0 : isWord(second) ? 1 : NO;
            if (which != NO) {
                step();
            }
            return which;
        }

        private boolean isWord(String word) {
            if (token != WORD || behindIt - place != word.length()) {
                return false;
            }
            for (int i = 0; i < word.length(); i++) {
                if (tape.at(place + i) != word.charAt(i)) {
                    return false;
                }
            }
            return true;
        }

        private void step() {
            place = behindIt;
            while (place < tape.length() && tape.at(place) == ' ') {
                place++;
            }
            token = tokenOf(tape.at(place));
            boolean isLong = token == WORD || token == NUMBER;
            value = 0;
            behindIt = place;
            while (behindIt < tape.length() && (behindIt == place || isLong && tokenOf(tape.at(behindIt)) == token)) {
                // Too great a value stays at the least such, lest it run over.
                value = Math.min(COINS_END, 10 * value + tape.at(behindIt) - '0');
                behindIt++;
            }
        }

        /** The token that a byte begins or goes on with. */
        private static int tokenOf(int value) {
            if (value == NO) {
                return END;
            }
            if (value >= 'a' && value <= 'z') {
                return WORD;
            }
            if (value >= '0' && value <= '9') {
                return NUMBER;
            }
            return value == ';' ? SIGN : STRANGE;
        }

        private static String nameOf(int kind) {
            switch (kind) {
                case DEBT:
                    return "debt";
                case DUEL:
                    return "duel";
                case KISS:
                    return "kiss";
                case VOW:
                    return "vow";
                case THEFT:
                    return "theft";
                default:
                    return "deed";
            }
        }
    }
}
