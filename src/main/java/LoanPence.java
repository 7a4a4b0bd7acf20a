import java.util.Arrays;

/** Pence for loans: what a land pays its authors for the books that its libraries lend. */
public final class LoanPence {
    public static final int NONE = -1;
    public static final int MISSING = -2;
    public static final int BEYOND = -3;
    public static final int BELOW = -4;
    public static final int KIND = -5;
    public static final int COPY = -6;
    public static final int NO = -7;
    public static final int FULL = -8;

    private static final int LAST_YEAR = 40;
    private static final int FIRST_DATE = -99;
    /** Stands for a YEAR that isn't known (BORN), or that hasn't come (DIED). */
    private static final int NO_DATE = -100;
    private static final int LAST_RULED = 100;
    private static final int REGIONS = 4;
    private static final int MOST_LIBRARIES = 12;
    private static final int MOST_EDITIONS = 30;
    private static final int MOST_PERSONS = 20;
    private static final int MOST_SHARES = 60;
    private static final int MOST_RULES = 12;
    private static final int MOST_ENTRIES = 400;
    private static final int MOST_BYTES = 120;
    private static final int MOST_NUMBERS = 12;
    private static final int MOST_OPEN = 6;
    private static final int MOST_DIGITS = 7;
    private static final int MOST_PASSED = 4;
    private static final int MOST_SIZE = 99999;
    private static final int MOST_LENT = 99999;
    private static final int MOST_TOLD = 9999999;
    private static final int MOST_TEXT = 9999;
    private static final int LAST_LAND = 3;
    private static final int LAST_ROLE = 4;
    private static final int LAST_KIND = 5;
    private static final int WRITER = 0;
    private static final int HUNDRED = 100;
    private static final int PAIRS = MOST_LIBRARIES * MOST_EDITIONS;
    private static final int[] KIND_POINTS = {12, 12, 6, 7, 4, 6};

    private static final int WHO = 0;
    private static final int PART = 1;
    private static final int ABROAD = 2;
    private static final int MOST = 3;
    private static final int LEAST = 4;
    private static final int LATE = 5;
    private static final int LAST_KEY = 5;
    private static final int[] UNRULED = {1, 100, 100, 0, 0, 0};

    private static final int ROLE_NAME = 0;
    private static final int KIND_NAME = 1;
    private static final int LAND_NAME = 2;
    private static final int YEAR_NAME = 3;
    private static final int DEAD_NAME = 4;
    private static final int CLAIM_NAME = 5;
    private static final int PARTS_NAME = 6;
    private static final int PRINTED_NAME = 7;
    private static final int TITLE_NAME = 8;
    private static final int LOANS_NAME = 9;
    private static final int NAMES = 10;

    /** KEYS, then NAMES, then the other WORDS: a WORD's number is its place here. */
    private static final String WORDS =
            "who part abroad most least late role kind land year dead claim parts printed title loans if or and not";
    private static final String SIGNS = "()+-*/%=<>";

    private static final int END_TOKEN = 0;
    private static final int BAD_TOKEN = 1;
    private static final int NUMBER_TOKEN = 2;
    private static final int WORD_TOKEN = 1000;
    private static final int NAME_TOKEN = WORD_TOKEN + 6;
    private static final int IF_TOKEN = NAME_TOKEN + NAMES;
    private static final int OR_TOKEN = IF_TOKEN + 1;
    private static final int AND_TOKEN = IF_TOKEN + 2;
    private static final int NOT_TOKEN = IF_TOKEN + 3;

    /** Steps of a RULE's code: signs stand for themselves, as these do for what has no sign of its own. */
    private static final int OR_STEP = 'o';
    private static final int AND_STEP = 'a';
    private static final int NOT_STEP = 'n';
    private static final int MINUS_STEP = 'm';
    private static final int NAME_STEP = 1000;
    private static final int NUMBER_STEP = 2000;

    private final Land land = new Land();
    private Land kept = null;
    private final Reader reader = new Reader();
    private final Counts counts = new Counts(land);
    private final Payments payments = new Payments(land, counts);
    private final int[] numbers = new int[MOST_NUMBERS];
    private int rowSize = NONE;
    private final int[] refused = new int[1 - FULL];

    public LoanPence() {
    }

    // ---- libraries, loans

    public int library(int region, int size) {
        if (!within(region, 0, REGIONS - 1) || !within(size, 1, MOST_SIZE)) {
            return refuse(NO);
        }
        if (land.libraries.many >= MOST_LIBRARIES) {
            return refuse(FULL);
        }
        return land.libraries.add(region, size);
    }

    public int draw(int bits) {
        boolean beyond = (bits & ~land.libraries.bitsOfAll()) != 0;
        if (beyond || land.entries.anyOf(land.open)) {
            return refuse(NO);
        }
        land.years.drawn[land.open] = bits;
        return Integer.bitCount(bits);
    }

    public int all(int region, int n) {
        if (!within(region, 0, REGIONS - 1)) {
            return refuse(BEYOND);
        }
        if (!within(n, 0, MOST_TOLD)) {
            return refuse(NO);
        }
        int place = land.open * REGIONS + region;
        int before = land.years.loansIn[place];
        land.years.loansIn[place] = n;
        return before;
    }

    public int lent(int library, int edition, int n) {
        if (!isPair(library, edition)) {
            return refuse(BEYOND);
        }
        if (!land.years.isDrawn(land.open, library)) {
            return refuse(KIND);
        }
        if (!within(n, 1, MOST_LENT)) {
            return refuse(NO);
        }
        int spot = spotOf(land.open, library, edition);
        int sum = land.entries.latest(spot, land.open) + n;
        if (sum > MOST_TOLD || !land.entries.tell(spot, land.open, sum)) {
            return refuse(FULL);
        }
        return sum;
    }

    public int put(int year, int library, int edition, int n) {
        if (!isClosed(year) || !isPair(library, edition)) {
            return refuse(BEYOND);
        }
        if (!land.years.isDrawn(year, library)) {
            return refuse(KIND);
        }
        if (!within(n, 0, MOST_TOLD)) {
            return refuse(NO);
        }
        int spot = spotOf(year, library, edition);
        int before = land.entries.latest(spot, land.open);
        if (!land.entries.tell(spot, land.open, n)) {
            return refuse(FULL);
        }
        return before;
    }

    public int known(int year, int of, int as) {
        int library = of / HUNDRED;
        int edition = of % HUNDRED;
        if (!isYear(year) || !isYear(as) || !isPair(library, edition)) {
            return refuseAsZero(BEYOND);
        }
        return land.entries.latest(spotOf(year, library, edition), as);
    }

    public int look(int library, int what) {
        if (!land.libraries.has(library)) {
            return refuse(BEYOND);
        }
        switch (what) {
            case 0:
                return land.libraries.region[library];
            case 1:
                return land.libraries.size[library];
            case 2:
                return land.years.isDrawn(land.open, library) ? 1 : 0;
            case 3:
                counts.read(land.open, land.open);
                return (int) counts.ofLibrary[library];
            default:
                return refuse(NO);
        }
    }

    public long year(int year, int what) {
        if (!isYear(year)) {
            return refuseAsZero(BEYOND);
        }
        Years years = land.years;
        switch (what) {
            case 0:
                return years.drawn[year];
            case 1:
            case 2:
            case 3:
            case 4:
                return years.loansIn[year * REGIONS + what - 1];
            case 5:
                return years.pence[year];
            case 6:
                return years.parted[year];
            case 7:
                return years.paidBack[year];
            case 8:
                return years.rest[year];
            default:
                return refuseAsZero(NO);
        }
    }

    // ---- editions, persons, shares

    public int edition(int kind, int title, int printed) {
        if (!within(kind, 0, LAST_KIND) || !within(title, 0, MOST_TEXT)
                || !within(printed, FIRST_DATE, land.open)) {
            return refuse(NO);
        }
        if (land.editions.many >= MOST_EDITIONS) {
            return refuse(FULL);
        }
        return land.editions.add(kind, title, printed);
    }

    public int person(int name, int land, int born) {
        if (!within(name, 0, MOST_TEXT) || !within(land, 0, LAST_LAND)
                || !within(born, NO_DATE, this.land.open)) {
            return refuse(NO);
        }
        if (this.land.people.many >= MOST_PERSONS) {
            return refuse(FULL);
        }
        return this.land.people.add(name, land, born);
    }

    public int died(int person, int year) {
        People people = land.people;
        if (!people.has(person)) {
            return refuseAsZero(BEYOND);
        }
        int first = Math.max(FIRST_DATE, people.born[person]);
        if (!within(year, first, land.open)) {
            return refuseAsZero(NO);
        }
        int before = people.diedIn[person];
        people.diedIn[person] = year;
        return before;
    }

    public int heir(int person, int heir, int parts) {
        People people = land.people;
        if (!people.has(person) || !people.has(heir)) {
            return refuse(BEYOND);
        }
        if (person == heir || !within(parts, 0, HUNDRED)) {
            return refuse(NO);
        }
        int place = person * MOST_PERSONS + heir;
        int before = people.heirParts[place];
        if (people.partsOfHeirs(person) - before + parts > HUNDRED) {
            return refuse(NO);
        }
        people.heirParts[place] = parts;
        return before;
    }

    public int share(int edition, int of, int parts) {
        int person = of / 10;
        int role = of % 10;
        if (!land.editions.has(edition) || of < 0 || !land.people.has(person)) {
            return refuse(BEYOND);
        }
        if (!within(role, 0, LAST_ROLE) || !within(parts, 1, HUNDRED)) {
            return refuse(NO);
        }
        if (land.shares.many >= MOST_SHARES || land.shares.partsOf(edition) + parts > HUNDRED) {
            return refuse(FULL);
        }
        int number = land.shares.add(edition, person, role, parts);
        land.shares.claimed[number] = land.open;
        return number;
    }

    public int editionOf(int edition, int what) {
        Editions editions = land.editions;
        if (!editions.has(edition)) {
            return refuseAsZero(BEYOND);
        }
        switch (what) {
            case 0:
                return editions.kind[edition];
            case 1:
                return editions.title[edition];
            case 2:
                return editions.printed[edition];
            case 3:
                return editions.bookOf[edition];
            case 4:
                return land.shares.partsOf(edition);
            default:
                return refuseAsZero(NO);
        }
    }

    public int personOf(int person, int what) {
        People people = land.people;
        if (!people.has(person)) {
            return refuseAsZero(BEYOND);
        }
        switch (what) {
            case 0:
                return people.name[person];
            case 1:
                return people.home[person];
            case 2:
                return people.born[person];
            case 3:
                return people.diedIn[person];
            case 4:
                return people.oneOf[person];
            case 5:
                return people.partsOfHeirs(person);
            default:
                return refuseAsZero(NO);
        }
    }

    public int shareOf(int share, int what) {
        Shares shares = land.shares;
        if (!shares.has(share)) {
            return refuse(BEYOND);
        }
        switch (what) {
            case 0:
                return shares.edition[share];
            case 1:
                return shares.person[share];
            case 2:
                return shares.role[share];
            case 3:
                return shares.parts[share];
            case 4:
                return shares.claimed[share];
            default:
                return refuse(NO);
        }
    }

    public int same(int what, int a, int b) {
        int refusal = twoRefused(what, a, b);
        if (refusal != 0) {
            return refuse(refusal);
        }
        return what == 0 ? land.likeEditions(a, b) : land.people.likeness(a, b);
    }

    public int join(int what, int a, int b) {
        int refusal = twoRefused(what, a, b);
        if (refusal != 0) {
            return refuse(refusal);
        }
        int like = what == 0 ? land.likeEditions(a, b) : land.people.likeness(a, b);
        if (like == 0) {
            return refuse(NO);
        }
        if (what == 0) {
            return unite(land.editions.bookOf, land.editions.many, a, b);
        }
        return unite(land.people.oneOf, land.people.many, a, b);
    }

    // ---- rules

    public int feed(int bytes, int n) {
        if (n < 0) {
            return refuse(BELOW);
        }
        if (n > 4) {
            return refuse(NO);
        }
        if (reader.size + n > MOST_BYTES) {
            return refuse(FULL);
        }
        reader.addBytes(bytes, n);
        return reader.size;
    }

    public int wipe() {
        int before = reader.size;
        reader.size = 0;
        return before;
    }

    public int rule(int from, int to) {
        if (!within(from, 0, LAST_RULED) || !within(to, 0, LAST_RULED) || from >= to) {
            return refuse(NO);
        }
        if (land.rules.many >= MOST_RULES) {
            return refuse(FULL);
        }
        reader.readRule();
        if (reader.fault != NONE) {
            return -10 - reader.fault;
        }
        reader.size = 0;
        return land.rules.add(from, to, reader);
    }

    public int says(int key, int year, int share) {
        if (!isAsked(key, year, share)) {
            return refuseAsZero(BEYOND);
        }
        payments.nameFor(key, year, share);
        return land.rules.worth(key, year, NONE, payments.names);
    }

    public int why(int key, int year, int share) {
        if (!isAsked(key, year, share)) {
            return refuse(BEYOND);
        }
        payments.nameFor(key, year, share);
        return land.rules.ruling(key, year, NONE, payments.names);
    }

    // ---- years

    public int fund(int pence) {
        if (!within(pence, 0, MOST_TOLD)) {
            return refuse(NO);
        }
        int before = land.years.pence[land.open];
        land.years.pence[land.open] = pence;
        return before;
    }

    public int close() {
        int closing = land.open;
        if (closing >= LAST_YEAR) {
            return refuse(FULL);
        }
        long had = land.years.fundOf(closing);
        long left = had;
        int late = payments.lateIn(closing);
        for (int past = Math.max(0, closing - late); past < closing; past++) {
            left -= payments.payBack(past, closing, left);
        }
        land.years.paidBack[closing] = had - left;
        payments.payOut(closing, left);
        land.openNext();
        return land.years.manyPaid(closing);
    }

    public int estimate(int year, int edition, int as) {
        if (!isYear(year) || !isYear(as) || !land.editions.has(edition)) {
            return refuseAsZero(BEYOND);
        }
        counts.work(year, as);
        return (int) counts.estimates[edition];
    }

    public long book(int year, int edition) {
        if (!isYear(year) || !land.editions.has(edition)) {
            return refuseAsZero(BEYOND);
        }
        counts.work(year, land.open);
        int[] bookOf = land.editions.bookOf;
        long sum = 0;
        for (int e = 0; e < land.editions.many; e++) {
            if (bookOf[e] == bookOf[edition]) {
                sum += counts.estimates[e];
            }
        }
        return sum;
    }

    public long points(int year, int person) {
        if (!isYear(year) || !land.people.has(person)) {
            return refuseAsZero(BEYOND);
        }
        payments.gather(year, land.open, NONE);
        return payments.pointsTo[person];
    }

    public long paid(int year, int person, int what) {
        if (!isClosed(year) || !land.people.has(person)) {
            return refuseAsZero(BEYOND);
        }
        int place = year * MOST_PERSONS + person;
        switch (what) {
            case 0:
                return land.years.got[place];
            case 1:
                return payments.wouldGet(year, person, land.open, NONE);
            case 2:
                return payments.wouldGet(year, person, year, NONE);
            case 3:
                return land.years.paidIn[place];
            default:
                return refuseAsZero(NO);
        }
    }

    public long gain(int year, int person, int rule) {
        if (!isClosed(year) || !land.people.has(person) || !land.rules.has(rule)) {
            return refuseAsZero(BEYOND);
        }
        long with = payments.wouldGet(year, person, land.open, NONE);
        return with - payments.wouldGet(year, person, land.open, rule);
    }

    // ---- draws, moved loans, spans

    public int bestDraw(int n) {
        if (n < 0) {
            return refuse(BELOW);
        }
        if (n > land.libraries.many || land.open == 0) {
            return refuse(NO);
        }
        int drawn = land.years.drawn[land.open];
        int best = NONE;
        int bestWidth = NONE;
        int bits = land.libraries.bitsOfAll();
        for (int set = 0; set <= bits; set++) {
            if (Integer.bitCount(set) == n) {
                int width = land.libraries.widthOf(set, land.years, land.open - 1);
                if (width != NONE && (best == NONE || width < bestWidth
                        || width == bestWidth && isFresher(set, best, drawn))) {
                    best = set;
                    bestWidth = width;
                }
            }
        }
        return best;
    }

    public int judge() {
        if (rowSize == NONE) {
            return refuse(MISSING);
        }
        if (land.open == 0) {
            return refuse(NO);
        }
        int set = 0;
        for (int i = 0; i < rowSize; i++) {
            int library = numbers[i];
            if (!land.libraries.has(library) || (set >> library & 1) == 1) {
                return NONE;
            }
            set |= 1 << library;
        }
        return land.libraries.widthOf(set, land.years, land.open - 1);
    }

    public int moved(int year, int of) {
        int library = of / HUNDRED;
        int edition = of % HUNDRED;
        if (!isYear(year) || !isPair(library, edition)) {
            return refuse(BEYOND);
        }
        if (!land.years.isDrawn(year, library)) {
            return refuse(KIND);
        }
        counts.read(year, land.open);
        return counts.isMoved(library, edition) ? 1 : 0;
    }

    public int movedMany(int year) {
        if (!isYear(year)) {
            return refuse(BEYOND);
        }
        counts.read(year, land.open);
        int many = 0;
        for (int library = 0; library < land.libraries.many; library++) {
            for (int edition = 0; edition < land.editions.many; edition++) {
                if (counts.isMoved(library, edition)) {
                    many++;
                }
            }
        }
        return many;
    }

    public long span(int year, int edition, int what) {
        if (!isYear(year) || !land.editions.has(edition)) {
            return refuseAsZero(BEYOND);
        }
        if (!within(what, 0, 1)) {
            return refuseAsZero(NO);
        }
        counts.read(year, land.open);
        return counts.boundOf(year, edition, what == 1);
    }

    public int count(int what) {
        switch (what) {
            case 0:
                return land.open;
            case 1:
                return land.libraries.many;
            case 2:
                return land.editions.many;
            case 3:
                return land.people.many;
            case 4:
                return land.shares.many;
            case 5:
                return land.rules.many;
            case 6:
                return land.entries.many;
            case 7:
                return reader.size;
            case 8:
                return heads(land.editions.bookOf, land.editions.many);
            case 9:
                return heads(land.people.oneOf, land.people.many);
            case 10:
                return Integer.bitCount(land.years.drawn[land.open]);
            default:
                return refuse(NO);
        }
    }

    public int image() {
        if (kept == null) {
            kept = new Land();
        }
        kept.takeFrom(land);
        return land.open;
    }

    public int back() {
        if (kept == null) {
            return refuse(MISSING);
        }
        land.takeFrom(kept);
        return land.open;
    }

    // ---- rows

    public int lay(int n) {
        if (n < 0) {
            return refuse(BELOW);
        }
        if (n > MOST_NUMBERS) {
            return refuse(NO);
        }
        Arrays.fill(numbers, 0);
        rowSize = n;
        return n;
    }

    public int set(int i, int v) {
        if (rowSize == NONE) {
            return refuseAsZero(MISSING);
        }
        if (!within(i, 0, rowSize - 1)) {
            return refuseAsZero(BEYOND);
        }
        int before = numbers[i];
        numbers[i] = v;
        return before;
    }

    public int tear() {
        int was = rowSize == NONE ? 0 : 1;
        rowSize = NONE;
        return was;
    }

    public int row(int i) {
        if (rowSize == NONE) {
            return refuseAsZero(MISSING);
        }
        if (!within(i, 0, rowSize - 1)) {
            return refuseAsZero(BEYOND);
        }
        return numbers[i];
    }

    public int copy(int i, int j, int n) {
        if (rowSize == NONE) {
            return refuse(MISSING);
        }
        if (n < 0) {
            return refuse(BELOW);
        }
        // Places are held against what is left, for i + n may wrap.
        if (n > rowSize || !within(i, 0, rowSize - n) || !within(j, 0, rowSize - n)) {
            return refuse(COPY);
        }
        System.arraycopy(numbers, i, numbers, j, n);
        return n;
    }

    public int status(int by) {
        if (!within(by, FULL, MISSING)) {
            return refuse(NO);
        }
        return refused[-by];
    }

    // ---- what the calls share

    private int refuse(int by) {
        refused[-by]++;
        return by;
    }

    /** For calls whose answers may be any number: status() alone tells of the refusal. */
    private int refuseAsZero(int by) {
        refused[-by]++;
        return 0;
    }

    private boolean isYear(int number) {
        return within(number, 0, land.open);
    }

    private boolean isClosed(int number) {
        return within(number, 0, land.open - 1);
    }

    private boolean isPair(int library, int edition) {
        return land.libraries.has(library) && land.editions.has(edition);
    }

    private boolean isAsked(int key, int number, int share) {
        return within(key, 0, LAST_KEY) && isYear(number)
                && (share == NONE || land.shares.has(share));
    }

    /** 0 if two EDITIONS (what 0) or two PERSONS (what 1) are there to be looked at. */
    private int twoRefused(int what, int a, int b) {
        if (!within(what, 0, 1)) {
            return NO;
        }
        boolean there = what == 0 ? land.editions.has(a) && land.editions.has(b)
                : land.people.has(a) && land.people.has(b);
        if (!there) {
            return BEYOND;
        }
        return a == b ? NO : 0;
    }

    /** Of two sets of one size and WIDTH. */
    private static boolean isFresher(int set, int best, int drawn) {
        int fresh = Integer.bitCount(set & ~drawn);
        int bestFresh = Integer.bitCount(best & ~drawn);
        if (fresh != bestFresh) {
            return fresh > bestFresh;
        }
        int unlike = set ^ best;
        return (set & unlike & -unlike) != 0;
    }

    private static boolean within(int number, int least, int most) {
        return number >= least && number <= most;
    }

    private static int bounded(int number, int least, int most) {
        return Math.max(least, Math.min(most, number));
    }

    private static int spotOf(int year, int library, int edition) {
        return year * PAIRS + library * MOST_EDITIONS + edition;
    }

    /** The greatest whole number whose square is n at most; LOANS stay far below 2 to the 34th. */
    private static long rootOf(long n) {
        long root = 0;
        for (int bit = 16; bit >= 0; bit--) {
            long next = root + (1L << bit);
            if (next * next <= n) {
                root = next;
            }
        }
        return root;
    }

    /** What cutting left goes one by one to the greatest rests; who takes no part has a rest of -1. */
    private static void giveLeft(long left, long[] rests, long[] to, int many) {
        for (int given = 0; given < left && given < many; given++) {
            int best = 0;
            for (int i = 1; i < many; i++) {
                if (rests[i] > rests[best]) {
                    best = i;
                }
            }
            if (rests[best] >= 0) {
                to[best]++;
                rests[best] = -1;
            }
        }
    }

    private static int unite(int[] headOf, int many, int a, int b) {
        int least = Math.min(headOf[a], headOf[b]);
        int gone = Math.max(headOf[a], headOf[b]);
        for (int i = 0; i < many; i++) {
            if (headOf[i] == gone) {
                headOf[i] = least;
            }
        }
        return least;
    }

    private static int heads(int[] headOf, int many) {
        int heads = 0;
        for (int i = 0; i < many; i++) {
            if (headOf[i] == i) {
                heads++;
            }
        }
        return heads;
    }

    /** All that image() keeps and back() brings again. */
    private static final class Land {
        int open;
        final Libraries libraries = new Libraries();
        final Entries entries = new Entries();
        final Editions editions = new Editions();
        final People people = new People();
        final Shares shares = new Shares();
        final Rules rules = new Rules();
        final Years years = new Years();

        void takeFrom(Land other) {
            open = other.open;
            libraries.takeFrom(other.libraries);
            entries.takeFrom(other.entries);
            editions.takeFrom(other.editions);
            people.takeFrom(other.people);
            shares.takeFrom(other.shares);
            rules.takeFrom(other.rules);
            years.takeFrom(other.years);
        }

        void openNext() {
            if (open < LAST_YEAR) {
                open++;
                years.drawn[open] = years.drawn[open - 1];
            }
        }

        int likeEditions(int a, int b) {
            if (editions.title[a] != editions.title[b] || isTooEarly(a, b) || isTooEarly(b, a)) {
                return 0;
            }
            if (haveCommonWriter(a, b)) {
                return 2;
            }
            return shares.hasWriter(a) && shares.hasWriter(b) ? 0 : 1;
        }

        /** Whether an EDITION was PRINTED ahead of the birth of a writer of another one. */
        private boolean isTooEarly(int edition, int other) {
            for (int s = 0; s < shares.many; s++) {
                // NO_DATE is below all YEARS in which an EDITION can be PRINTED.
                if (shares.isWriters(s, other)
                        && editions.printed[edition] < people.born[shares.person[s]]) {
                    return true;
                }
            }
            return false;
        }

        /** A SHARE comes to the ONE of its PERSON, so writers that were JOINED are one writer. */
        private boolean haveCommonWriter(int a, int b) {
            for (int s = 0; s < shares.many; s++) {
                int one = people.oneOf[shares.person[s]];
                for (int t = 0; shares.isWriters(s, a) && t < shares.many; t++) {
                    if (shares.isWriters(t, b) && people.oneOf[shares.person[t]] == one) {
                        return true;
                    }
                }
            }
            return false;
        }
    }

    private static final class Libraries {
        int many;
        final int[] region = new int[MOST_LIBRARIES];
        final int[] size = new int[MOST_LIBRARIES];
        private final int[] sizes = new int[REGIONS];

        void takeFrom(Libraries other) {
            many = other.many;
            System.arraycopy(other.region, 0, region, 0, MOST_LIBRARIES);
            System.arraycopy(other.size, 0, size, 0, MOST_LIBRARIES);
        }

        boolean has(int number) {
            return within(number, 0, many - 1);
        }

        int bitsOfAll() {
            return (1 << many) - 1;
        }

        int add(int regionOf, int sizeOf) {
            int number = many;
            region[number] = regionOf;
            size[number] = sizeOf;
            many++;
            return number;
        }

        /** NONE if a REGION has LIBRARIES, but none in the set. */
        int widthOf(int set, Years years, int past) {
            Arrays.fill(sizes, 0);
            int peopled = 0;
            for (int l = 0; l < many; l++) {
                peopled |= 1 << region[l];
                if ((set >> l & 1) == 1) {
                    sizes[region[l]] += size[l];
                }
            }
            int width = 0;
            for (int r = 0; r < REGIONS; r++) {
                if ((peopled >> r & 1) == 1) {
                    if (sizes[r] == 0) {
                        return NONE;
                    }
                    width = Math.max(width, years.loansIn[past * REGIONS + r] / sizes[r]);
                }
            }
            return width;
        }
    }

    /** Kept in the order in which they came: of one spot the last one is the latest. */
    private static final class Entries {
        int many;
        final int[] spot = new int[MOST_ENTRIES];
        final int[] loans = new int[MOST_ENTRIES];
        final int[] toldIn = new int[MOST_ENTRIES];

        void takeFrom(Entries other) {
            many = other.many;
            System.arraycopy(other.spot, 0, spot, 0, MOST_ENTRIES);
            System.arraycopy(other.loans, 0, loans, 0, MOST_ENTRIES);
            System.arraycopy(other.toldIn, 0, toldIn, 0, MOST_ENTRIES);
        }

        boolean anyOf(int number) {
            for (int i = 0; i < many; i++) {
                if (spot[i] / PAIRS == number) {
                    return true;
                }
            }
            return false;
        }

        int latest(int at, int as) {
            for (int i = many - 1; i >= 0; i--) {
                if (spot[i] == at && toldIn[i] <= as) {
                    return loans[i];
                }
            }
            return 0;
        }

        /** False if there is no room for one more ENTRY. */
        boolean tell(int at, int open, int n) {
            for (int i = 0; i < many; i++) {
                if (spot[i] == at && toldIn[i] == open) {
                    loans[i] = n;
                    return true;
                }
            }
            if (many >= MOST_ENTRIES) {
                return false;
            }
            spot[many] = at;
            loans[many] = n;
            toldIn[many] = open;
            many++;
            return true;
        }
    }

    private static final class Editions {
        int many;
        final int[] kind = new int[MOST_EDITIONS];
        final int[] title = new int[MOST_EDITIONS];
        final int[] printed = new int[MOST_EDITIONS];
        final int[] bookOf = new int[MOST_EDITIONS];

        void takeFrom(Editions other) {
            many = other.many;
            System.arraycopy(other.kind, 0, kind, 0, MOST_EDITIONS);
            System.arraycopy(other.title, 0, title, 0, MOST_EDITIONS);
            System.arraycopy(other.printed, 0, printed, 0, MOST_EDITIONS);
            System.arraycopy(other.bookOf, 0, bookOf, 0, MOST_EDITIONS);
        }

        boolean has(int number) {
            return within(number, 0, many - 1);
        }

        int add(int kindOf, int titleOf, int printedIn) {
            int number = many;
            kind[number] = kindOf;
            title[number] = titleOf;
            printed[number] = printedIn;
            bookOf[number] = number;
            many++;
            return number;
        }
    }

    private static final class People {
        int many;
        final int[] name = new int[MOST_PERSONS];
        final int[] home = new int[MOST_PERSONS];
        final int[] born = new int[MOST_PERSONS];
        final int[] diedIn = new int[MOST_PERSONS];
        final int[] oneOf = new int[MOST_PERSONS];
        final int[] heirParts = new int[MOST_PERSONS * MOST_PERSONS];

        void takeFrom(People other) {
            many = other.many;
            System.arraycopy(other.name, 0, name, 0, MOST_PERSONS);
            System.arraycopy(other.home, 0, home, 0, MOST_PERSONS);
            System.arraycopy(other.born, 0, born, 0, MOST_PERSONS);
            System.arraycopy(other.diedIn, 0, diedIn, 0, MOST_PERSONS);
            System.arraycopy(other.oneOf, 0, oneOf, 0, MOST_PERSONS);
            System.arraycopy(other.heirParts, 0, heirParts, 0, heirParts.length);
        }

        boolean has(int number) {
            return within(number, 0, many - 1);
        }

        int add(int nameOf, int homeOf, int bornIn) {
            int number = many;
            name[number] = nameOf;
            home[number] = homeOf;
            born[number] = bornIn;
            diedIn[number] = NO_DATE;
            oneOf[number] = number;
            many++;
            return number;
        }

        int partsOfHeirs(int number) {
            int sum = 0;
            for (int h = 0; h < many; h++) {
                sum += heirParts[number * MOST_PERSONS + h];
            }
            return sum;
        }

        /** 0 while it lives, too. */
        int yearsDead(int number, int in) {
            return diedIn[number] == NO_DATE ? 0 : Math.max(0, in - diedIn[number]);
        }

        int likeness(int a, int b) {
            boolean bothKnown = born[a] != NO_DATE && born[b] != NO_DATE;
            if (name[a] != name[b] || bothKnown && born[a] != born[b]
                    || isGoneAhead(a, b) || isGoneAhead(b, a)) {
                return 0;
            }
            return bothKnown ? 2 : 1;
        }

        private boolean isGoneAhead(int number, int other) {
            return diedIn[number] != NO_DATE && diedIn[number] < born[other];
        }
    }

    private static final class Shares {
        int many;
        final int[] edition = new int[MOST_SHARES];
        final int[] person = new int[MOST_SHARES];
        final int[] role = new int[MOST_SHARES];
        final int[] parts = new int[MOST_SHARES];
        final int[] claimed = new int[MOST_SHARES];

        void takeFrom(Shares other) {
            many = other.many;
            System.arraycopy(other.edition, 0, edition, 0, MOST_SHARES);
            System.arraycopy(other.person, 0, person, 0, MOST_SHARES);
            System.arraycopy(other.role, 0, role, 0, MOST_SHARES);
            System.arraycopy(other.parts, 0, parts, 0, MOST_SHARES);
            System.arraycopy(other.claimed, 0, claimed, 0, MOST_SHARES);
        }

        boolean has(int number) {
            return within(number, 0, many - 1);
        }

        int add(int of, int to, int as, int partsTo) {
            int number = many;
            edition[number] = of;
            person[number] = to;
            role[number] = as;
            parts[number] = partsTo;
            many++;
            return number;
        }

        int partsOf(int of) {
            int sum = 0;
            for (int s = 0; s < many; s++) {
                if (edition[s] == of) {
                    sum += parts[s];
                }
            }
            return sum;
        }

        boolean isWriters(int number, int of) {
            return role[number] == WRITER && edition[number] == of;
        }

        boolean hasWriter(int of) {
            for (int s = 0; s < many; s++) {
                if (isWriters(s, of)) {
                    return true;
                }
            }
            return false;
        }
    }

    /** RULES as code that puts its numbers on a stack: what stands ahead of if, then what stands behind it. */
    private static final class Rules {
        int many;
        final int[] key = new int[MOST_RULES];
        final int[] from = new int[MOST_RULES];
        final int[] until = new int[MOST_RULES];
        final int[] ifAt = new int[MOST_RULES];
        final int[] endAt = new int[MOST_RULES];
        final int[] code = new int[MOST_RULES * MOST_BYTES];
        private final int[] stack = new int[MOST_BYTES];

        void takeFrom(Rules other) {
            many = other.many;
            System.arraycopy(other.key, 0, key, 0, MOST_RULES);
            System.arraycopy(other.from, 0, from, 0, MOST_RULES);
            System.arraycopy(other.until, 0, until, 0, MOST_RULES);
            System.arraycopy(other.ifAt, 0, ifAt, 0, MOST_RULES);
            System.arraycopy(other.endAt, 0, endAt, 0, MOST_RULES);
            System.arraycopy(other.code, 0, code, 0, code.length);
        }

        boolean has(int number) {
            return within(number, 0, many - 1);
        }

        int add(int first, int beyond, Reader reader) {
            int number = many;
            int start = number * MOST_BYTES;
            key[number] = reader.key;
            from[number] = first;
            until[number] = beyond;
            ifAt[number] = start + reader.ifAt;
            endAt[number] = start + reader.codeSize;
            System.arraycopy(reader.code, 0, code, start, reader.codeSize);
            many++;
            return number;
        }

        /** What a KEY SAYS, as if the RULE without weren't there. */
        int worth(int keyOf, int in, int without, int[] names) {
            int number = ruling(keyOf, in, without, names);
            return number == NONE ? UNRULED[keyOf]
                    : run(number * MOST_BYTES, ifAt[number], names);
        }

        int ruling(int keyOf, int in, int without, int[] names) {
            for (int r = many - 1; r >= 0; r--) {
                if (key[r] == keyOf && r != without && from[r] <= in && in < until[r]
                        && (ifAt[r] == endAt[r] || run(ifAt[r], endAt[r], names) != 0)) {
                    return r;
                }
            }
            return NONE;
        }

        private int run(int start, int end, int[] names) {
            int top = 0;
            for (int i = start; i < end; i++) {
                int step = code[i];
                if (step >= NAME_STEP) {
                    if (top < stack.length) {
                        stack[top] = step >= NUMBER_STEP ? step - NUMBER_STEP : names[step - NAME_STEP];
                        top++;
                    }
                } else if (step == NOT_STEP || step == MINUS_STEP) {
                    if (top >= 1) {
                        int number = stack[top - 1];
                        stack[top - 1] = step == MINUS_STEP ? -number : number == 0 ? 1 : 0;
                    }
                } else if (top >= 2) {
                    top--;
                    stack[top - 1] = ofTwo(step, stack[top - 1], stack[top]);
                }
            }
            return stack[0];
        }

        private static int ofTwo(int step, int a, int b) {
            switch (step) {
                case '+':
                    return a + b;
                case '-':
                    return a - b;
                case '*':
                    return a * b;
                case '/':
                    return b == 0 ? 0 : a / b;
                case '%':
                    return b == 0 ? 0 : a % b;
                case '=':
                    return a == b ? 1 : 0;
                case '<':
                    return a < b ? 1 : 0;
                case '>':
                    return a > b ? 1 : 0;
                case OR_STEP:
                    return a != 0 || b != 0 ? 1 : 0;
                default:
                    return a != 0 && b != 0 ? 1 : 0;
            }
        }
    }

    private static final class Years {
        final int[] drawn = new int[LAST_YEAR + 1];
        final int[] loansIn = new int[(LAST_YEAR + 1) * REGIONS];
        final int[] pence = new int[LAST_YEAR + 1];
        final long[] parted = new long[LAST_YEAR + 1];
        final long[] paidBack = new long[LAST_YEAR + 1];
        final long[] rest = new long[LAST_YEAR + 1];
        /** Paid to a number of a YEAR, and paid to it as a YEAR closed, of whichever YEAR. */
        final long[] got = new long[(LAST_YEAR + 1) * MOST_PERSONS];
        final long[] paidIn = new long[(LAST_YEAR + 1) * MOST_PERSONS];

        void takeFrom(Years other) {
            System.arraycopy(other.drawn, 0, drawn, 0, drawn.length);
            System.arraycopy(other.loansIn, 0, loansIn, 0, loansIn.length);
            System.arraycopy(other.pence, 0, pence, 0, pence.length);
            System.arraycopy(other.parted, 0, parted, 0, parted.length);
            System.arraycopy(other.paidBack, 0, paidBack, 0, paidBack.length);
            System.arraycopy(other.rest, 0, rest, 0, rest.length);
            System.arraycopy(other.got, 0, got, 0, got.length);
            System.arraycopy(other.paidIn, 0, paidIn, 0, paidIn.length);
        }

        boolean isDrawn(int number, int library) {
            return (drawn[number] >> library & 1) == 1;
        }

        long fundOf(int number) {
            return pence[number] + (number > 0 ? rest[number - 1] : 0);
        }

        void pay(int of, int closing, int person, long sum) {
            got[of * MOST_PERSONS + person] += sum;
            paidIn[closing * MOST_PERSONS + person] += sum;
        }

        int manyPaid(int closed) {
            int many = 0;
            for (int p = 0; p < MOST_PERSONS; p++) {
                if (paidIn[closed * MOST_PERSONS + p] > 0) {
                    many++;
                }
            }
            return many;
        }
    }

    /** THE TAPE, and how it is read as a RULE. */
    private static final class Reader {
        final int[] tape = new int[MOST_BYTES];
        int size;
        private final int[] token = new int[MOST_BYTES + 1];
        private final int[] place = new int[MOST_BYTES + 1];
        private final int[] worth = new int[MOST_BYTES + 1];
        private int at;
        /** Where the first TOKEN is that can't stand, or NONE. */
        int fault;
        int key;
        final int[] code = new int[MOST_BYTES];
        int codeSize;
        int ifAt;

        void addBytes(int bytes, int n) {
            for (int i = n - 1; i >= 0 && size < MOST_BYTES; i--) {
                tape[size] = bytes >> 8 * i & 255;
                size++;
            }
        }

        void readRule() {
            readTokens();
            at = 0;
            fault = NONE;
            codeSize = 0;
            key = token[0] - WORD_TOKEN;
            if (!within(key, 0, LAST_KEY)) {
                fault = place[0];
                return;
            }
            at++;
            readE(0);
            ifAt = codeSize;
            if (stands(IF_TOKEN)) {
                at++;
                readE(0);
            }
            if (!stands(END_TOKEN)) {
                fail();
            }
        }

        /** Up to the end or to the first that is no TOKEN: nothing is read beyond that. */
        private void readTokens() {
            int many = 0;
            int next = 0;
            int last = NONE;
            while (many <= MOST_BYTES && last != END_TOKEN && last != BAD_TOKEN) {
                while (next < size && tape[next] == ' ') {
                    next++;
                }
                place[many] = next;
                int end = tokenEnd(next);
                token[many] = tokenAt(next, end);
                worth[many] = token[many] == NUMBER_TOKEN ? numberAt(next, end) : 0;
                last = token[many];
                next = end;
                many++;
            }
        }

        private int tokenEnd(int start) {
            if (start >= size) {
                return size;
            }
            int end = start + 1;
            boolean word = isLetter(tape[start]);
            boolean number = isDigit(tape[start]);
            while (end < size && (word && isLetter(tape[end]) || number && isDigit(tape[end]))) {
                end++;
            }
            return end;
        }

        private int tokenAt(int start, int end) {
            if (start >= end) {
                return END_TOKEN;
            }
            int first = tape[start];
            if (isLetter(first)) {
                return wordAt(start, end);
            }
            if (isDigit(first)) {
                return end - start > MOST_DIGITS ? BAD_TOKEN : NUMBER_TOKEN;
            }
            return SIGNS.indexOf((char) first) >= 0 ? first : BAD_TOKEN;
        }

        private int numberAt(int start, int end) {
            int number = 0;
            for (int i = start; i < end; i++) {
                number = number * 10 + tape[i] - '0';
            }
            return number;
        }

        private int wordAt(int start, int end) {
            int number = 0;
            int first = 0;
            for (int i = 0; i <= WORDS.length(); i++) {
                if (i == WORDS.length() || WORDS.charAt(i) == ' ') {
                    if (i - first == end - start && isSpelt(first, start, end - start)) {
                        return WORD_TOKEN + number;
                    }
                    number++;
                    first = i + 1;
                }
            }
            return BAD_TOKEN;
        }

        private boolean isSpelt(int first, int start, int length) {
            for (int i = 0; i < length; i++) {
                if (WORDS.charAt(first + i) != tape[start + i]) {
                    return false;
                }
            }
            return true;
        }

        private static boolean isLetter(int sign) {
            return within(sign, 'a', 'z');
        }

        private static boolean isDigit(int sign) {
            return within(sign, '0', '9');
        }

        private boolean stands(int wanted) {
            return fault == NONE && token[at] == wanted;
        }

        private void fail() {
            if (fault == NONE) {
                fault = place[at];
            }
        }

        private void emit(int step) {
            if (codeSize < MOST_BYTES) {
                code[codeSize] = step;
                codeSize++;
            }
        }

        // Each of these carries how many ( , not and - are open, which keeps them from going deep.

        private void readE(int open) {
            readAnd(open);
            for (int i = 0; i < MOST_BYTES && stands(OR_TOKEN); i++) {
                at++;
                readAnd(open);
                emit(OR_STEP);
            }
        }

        private void readAnd(int open) {
            readNot(open);
            for (int i = 0; i < MOST_BYTES && stands(AND_TOKEN); i++) {
                at++;
                readNot(open);
                emit(AND_STEP);
            }
        }

        private void readNot(int open) {
            if (stands(NOT_TOKEN)) {
                if (open >= MOST_OPEN) {
                    fail();
                    return;
                }
                at++;
                readNot(open + 1);
                emit(NOT_STEP);
                return;
            }
            readSum(open);
            if (stands('=') || stands('<') || stands('>')) {
                int sign = token[at];
                at++;
                readSum(open);
                emit(sign);
            }
        }

        private void readSum(int open) {
            readTerm(open);
            for (int i = 0; i < MOST_BYTES && (stands('+') || stands('-')); i++) {
                int sign = token[at];
                at++;
                readTerm(open);
                emit(sign);
            }
        }

        private void readTerm(int open) {
            readOne(open);
            for (int i = 0; i < MOST_BYTES && (stands('*') || stands('/') || stands('%')); i++) {
                int sign = token[at];
                at++;
                readOne(open);
                emit(sign);
            }
        }

        private void readOne(int open) {
            if (fault != NONE) {
                return;
            }
            int now = token[at];
            if (now == NUMBER_TOKEN) {
                emit(NUMBER_STEP + worth[at]);
                at++;
            } else if (within(now, NAME_TOKEN, NAME_TOKEN + NAMES - 1)) {
                emit(NAME_STEP + now - NAME_TOKEN);
                at++;
            } else if (now == '-' && open < MOST_OPEN) {
                at++;
                readOne(open + 1);
                emit(MINUS_STEP);
            } else if (now == '(' && open < MOST_OPEN) {
                at++;
                readE(open + 1);
                if (stands(')')) {
                    at++;
                } else {
                    fail();
                }
            } else {
                fail();
            }
        }
    }

    /** LOANS of the YEAR that was read last, and what is worked from them alone. */
    private static final class Counts {
        private final Land land;
        private final int[] loans = new int[PAIRS];
        final long[] ofLibrary = new long[MOST_LIBRARIES];
        private final long[] ofEdition = new long[MOST_EDITIONS];
        private long ofAll;
        private int pairs;
        private final long[] inRegion = new long[MOST_EDITIONS];
        private final long[] rests = new long[MOST_EDITIONS];
        final long[] estimates = new long[MOST_EDITIONS];

        Counts(Land land) {
            this.land = land;
        }

        void read(int of, int as) {
            Arrays.fill(loans, 0);
            Entries entries = land.entries;
            for (int i = 0; i < entries.many; i++) {
                int pair = entries.spot[i] - of * PAIRS;
                if (within(pair, 0, PAIRS - 1) && entries.toldIn[i] <= as
                        && land.years.isDrawn(of, pair / MOST_EDITIONS)) {
                    loans[pair] = entries.loans[i];
                }
            }
            sumUp();
        }

        private void sumUp() {
            Arrays.fill(ofLibrary, 0);
            Arrays.fill(ofEdition, 0);
            ofAll = 0;
            pairs = 0;
            for (int l = 0; l < land.libraries.many; l++) {
                for (int e = 0; e < land.editions.many; e++) {
                    int n = loans[l * MOST_EDITIONS + e];
                    ofLibrary[l] += n;
                    ofEdition[e] += n;
                    ofAll += n;
                    if (n > 0) {
                        pairs++;
                    }
                }
            }
        }

        /** LOANS of all EDITIONS in a REGION; those of each are in inRegion then. */
        private long sumUpRegion(int region) {
            Arrays.fill(inRegion, 0);
            long sum = 0;
            for (int l = 0; l < land.libraries.many; l++) {
                if (land.libraries.region[l] == region && ofLibrary[l] > 0) {
                    sum += ofLibrary[l];
                    for (int e = 0; e < land.editions.many; e++) {
                        inRegion[e] += loans[l * MOST_EDITIONS + e];
                    }
                }
            }
            return sum;
        }

        void work(int of, int as) {
            read(of, as);
            Arrays.fill(estimates, 0);
            for (int r = 0; r < REGIONS; r++) {
                long sum = sumUpRegion(r);
                long all = land.years.loansIn[of * REGIONS + r];
                if (sum > 0 && all > 0) {
                    weighUp(all, sum);
                }
            }
        }

        private void weighUp(long all, long sum) {
            if (sum <= 0) {
                return;
            }
            long left = all;
            int many = land.editions.many;
            for (int e = 0; e < many; e++) {
                long times = all * inRegion[e];
                estimates[e] += times / sum;
                rests[e] = times % sum;
                left -= times / sum;
            }
            giveLeft(left, rests, estimates, many);
        }

        boolean isMoved(int library, int edition) {
            if (ofAll <= 0) {
                return false;
            }
            long due = ofEdition[edition] * ofLibrary[library] / ofAll;
            long strict = 3 + pairs / 8;
            return loans[library * MOST_EDITIONS + edition] > due + strict * (rootOf(due) + 1);
        }

        long boundOf(int of, int edition, boolean upper) {
            long bound = 0;
            for (int r = 0; r < REGIONS; r++) {
                long sum = sumUpRegion(r);
                if (sum > 0) {
                    long n = inRegion[edition];
                    long edge = upper ? n + rootOf(n) + 1 : n - rootOf(n);
                    bound += land.years.loansIn[of * REGIONS + r] * edge / sum;
                }
            }
            return bound;
        }
    }

    /** POINTS of a YEAR WORKED, and the pence parted by them. */
    private static final class Payments {
        private final Land land;
        private final Counts counts;
        final int[] names = new int[NAMES];
        final long[] pointsTo = new long[MOST_PERSONS];
        private final long[] gets = new long[MOST_PERSONS];
        private final long[] rests = new long[MOST_PERSONS];
        private final boolean[] in = new boolean[MOST_PERSONS];

        Payments(Land land, Counts counts) {
            this.land = land;
            this.counts = counts;
        }

        void nameFor(int key, int of, int share) {
            if (key <= ABROAD && share != NONE) {
                counts.work(of, land.open);
                nameShare(share, of);
            } else {
                nameNone(of);
            }
        }

        private void nameNone(int of) {
            Arrays.fill(names, 0);
            names[YEAR_NAME] = of;
        }

        private void nameShare(int share, int of) {
            int edition = land.shares.edition[share];
            int person = land.shares.person[share];
            names[ROLE_NAME] = land.shares.role[share];
            names[KIND_NAME] = land.editions.kind[edition];
            names[LAND_NAME] = land.people.home[person];
            names[YEAR_NAME] = of;
            names[DEAD_NAME] = land.people.yearsDead(person, of);
            names[CLAIM_NAME] = land.shares.claimed[share];
            names[PARTS_NAME] = land.shares.parts[share];
            names[PRINTED_NAME] = land.editions.printed[edition];
            names[TITLE_NAME] = land.editions.title[edition];
            names[LOANS_NAME] = (int) counts.estimates[edition];
        }

        int lateIn(int closing) {
            nameNone(closing);
            return bounded(land.rules.worth(LATE, closing, NONE, names), 0, LAST_YEAR);
        }

        /** POINTS of a YEAR, LOANS as KNOWN in another one, as if the RULE without weren't there. */
        void gather(int of, int as, int without) {
            counts.work(of, as);
            Arrays.fill(pointsTo, 0);
            for (int s = 0; s < land.shares.many; s++) {
                if (counts.estimates[land.shares.edition[s]] > 0) {
                    long sum = pointsOf(s, of, without);
                    passOn(land.people, pointsTo, land.shares.person[s], sum, of, 0);
                }
            }
        }

        private long pointsOf(int share, int of, int without) {
            Rules rules = land.rules;
            nameShare(share, of);
            if (rules.worth(WHO, of, without, names) == 0) {
                return 0;
            }
            int edition = land.shares.edition[share];
            long part = bounded(rules.worth(PART, of, without, names), 0, HUNDRED);
            long abroad = HUNDRED;
            if (land.people.home[land.shares.person[share]] != 0) {
                abroad = bounded(rules.worth(ABROAD, of, without, names), 0, HUNDRED);
            }
            return counts.estimates[edition] * KIND_POINTS[land.editions.kind[edition]]
                    * land.shares.parts[share] * part * abroad / 1000000;
        }

        private static void passOn(People people, long[] to, int person, long sum, int of, int passed) {
            if (sum == 0) {
                return;
            }
            if (people.yearsDead(person, of) == 0) {
                to[people.oneOf[person]] += sum;
            } else if (passed < MOST_PASSED) {
                for (int h = 0; h < people.many; h++) {
                    long parts = people.heirParts[person * MOST_PERSONS + h];
                    if (parts > 0) {
                        passOn(people, to, h, sum * parts / HUNDRED, of, passed + 1);
                    }
                }
            }
        }

        /** Parts pence by the POINTS that were gathered: what nobody gets. */
        private long partPence(long pence, int of, int without) {
            nameNone(of);
            long most = land.rules.worth(MOST, of, without, names);
            long least = land.rules.worth(LEAST, of, without, names);
            for (int p = 0; p < MOST_PERSONS; p++) {
                gets[p] = 0;
                in[p] = pointsTo[p] > 0;
            }
            partEvenly(most > 0 ? partToMost(pence, most) : pence);
            long rest = pence;
            for (int p = 0; p < MOST_PERSONS; p++) {
                if (gets[p] < least) {
                    gets[p] = 0;
                }
                rest -= gets[p];
            }
            return rest;
        }

        /** Who would get more than the most gets it and is out: what is left for the others. */
        private long partToMost(long pence, long most) {
            long left = pence;
            boolean moves = true;
            for (int round = 0; moves && round <= MOST_PERSONS; round++) {
                long points = pointsIn();
                long shared = left;
                moves = false;
                for (int p = 0; p < MOST_PERSONS; p++) {
                    if (in[p] && shared * pointsTo[p] > most * points) {
                        gets[p] = most;
                        in[p] = false;
                        left -= most;
                        moves = true;
                    }
                }
            }
            return left;
        }

        private void partEvenly(long pence) {
            long points = pointsIn();
            if (points <= 0) {
                return;
            }
            long left = pence;
            for (int p = 0; p < MOST_PERSONS; p++) {
                rests[p] = -1;
                if (in[p]) {
                    gets[p] = pence * pointsTo[p] / points;
                    rests[p] = pence * pointsTo[p] % points;
                    left -= gets[p];
                }
            }
            giveLeft(left, rests, gets, MOST_PERSONS);
        }

        private long pointsIn() {
            long sum = 0;
            for (int p = 0; p < MOST_PERSONS; p++) {
                if (in[p]) {
                    sum += pointsTo[p];
                }
            }
            return sum;
        }

        long wouldGet(int of, int person, int as, int without) {
            gather(of, as, without);
            partPence(land.years.parted[of], of, without);
            return gets[person];
        }

        /** Pays what is lacking of a past YEAR, from what is left: how much that was. */
        long payBack(int past, int closing, long left) {
            if (left <= 0 || land.years.parted[past] <= 0) {
                return 0;
            }
            gather(past, closing, NONE);
            partPence(land.years.parted[past], past, NONE);
            long lacks = keepLacks(past);
            long spent = 0;
            for (int p = 0; lacks > 0 && p < MOST_PERSONS; p++) {
                long sum = lacks > left ? gets[p] * left / lacks : gets[p];
                land.years.pay(past, closing, p, sum);
                spent += sum;
            }
            return spent;
        }

        /** Leaves of what each would get only what it lacks: all lacks together. */
        private long keepLacks(int past) {
            for (int p = 0; p < land.people.many; p++) {
                gets[land.people.oneOf[p]] -= land.years.got[past * MOST_PERSONS + p];
            }
            long lacks = 0;
            for (int p = 0; p < MOST_PERSONS; p++) {
                gets[p] = Math.max(0, gets[p]);
                lacks += gets[p];
            }
            return lacks;
        }

        void payOut(int closing, long pence) {
            gather(closing, closing, NONE);
            land.years.parted[closing] = pence;
            land.years.rest[closing] = partPence(pence, closing, NONE);
            for (int p = 0; p < MOST_PERSONS; p++) {
                land.years.pay(closing, closing, p, gets[p]);
            }
        }
    }
}
