import java.util.Arrays;

/** Rights of way of a shire, by a book of pages that is only added to. The document is ../shared/DOC.md. */
public final class ShireWays {
    public static final int UNKNOWN = -1, BAD = -2, STATE = -3, FULL = -4, NONE = -9, CAST = -13;

    private static final int PLACES = 10, WAYS = 12, WITNESSES = 20, KINDS = 3, YEARS = 101;
    private static final int PAGES = 100, ORDERS = 20;
    private static final int MOST_WEIGHT = 9, MOST_DAYS = 365, LEAST_NOTICE = 28, FOOT = 0;

    // The sorts of pages, and two that page() takes beside them: STOP stands there for any order.
    private static final int WALK = 0, PAPER = 1, BREAK = 2, STOP = 3, MAKE = 4, STRIKE = 5, STATUTE = 6, ANY = 7;

    // What a page tells, by the numbers that page() is asked with.
    private static final int SORT = 0, WAY = 1, KIND = 2, YEAR = 3, LAST_YEAR = 4, WITNESS = 5, WEIGHT = 6,
            DAYS = 7, STRUCK = 8, NEEDS = 9, PERSONS = 10, GAPS = 11, WHATS = 12;

    // The statute ahead of any, and the bounds of one.
    private static final int FIRST_NEEDS = 20, FIRST_PERSONS = 2, FIRST_GAPS = 1, FIRST_WEIGHT = 10;
    private static final int MOST_NEEDS = 40, MOST_PERSONS = 4, MOST_GAPS = 5, MOST_STATUTE_WEIGHT = 30;

    // By what a way is in force.
    private static final int BY_NOTHING = 0, BY_USE = 1, BY_PAPERS = 2, BY_MAKE = 3;

    private final Book book;
    private final Roads roads;
    private final Sight sight;
    private final Leaning leaning;

    public ShireWays() {
        Book pages = new Book();
        Sight whole = new Sight(pages);
        book = pages;
        roads = new Roads();
        sight = whole;
        leaning = new Leaning(pages, whole);
    }

    // ---- ways, the book

    public int way(int a, int b) {
        if (!isPlace(a) || !isPlace(b)) return UNKNOWN;
        if (a == b) return STATE;
        return roads.add(a, b);
    }

    public int walk(int witness, int way, int kind, int from, int to) {
        if (!isWithin(witness, 0, WITNESSES - 1) || !roads.has(way)) return UNKNOWN;
        if (!isKind(kind) || !isYear(from) || !isYear(to) || from > to) return BAD;
        int page = book.add(WALK);
        book.tell(page, WITNESS, witness);
        book.tell(page, WAY, way);
        book.tell(page, KIND, kind);
        book.tell(page, YEAR, from);
        book.tell(page, LAST_YEAR, to);
        return page;
    }

    public int paper(int way, int kind, int weight) {
        if (!roads.has(way)) return UNKNOWN;
        if (!isKind(kind) || !isWithin(weight, 1, MOST_WEIGHT)) return BAD;
        int page = book.add(PAPER);
        book.tell(page, WAY, way);
        book.tell(page, KIND, kind);
        book.tell(page, WEIGHT, weight);
        return page;
    }

    public int broke(int way, int year) {
        if (!roads.has(way)) return UNKNOWN;
        if (!isYear(year)) return BAD;
        int page = book.add(BREAK);
        book.tell(page, WAY, way);
        book.tell(page, YEAR, year);
        return page;
    }

    public int stop(int way, int year, int days) {
        if (!roads.has(way)) return UNKNOWN;
        if (!isYear(year) || !isWithin(days, 0, MOST_DAYS)) return BAD;
        int page = book.add(STOP);
        book.tell(page, WAY, way);
        book.tell(page, YEAR, year);
        book.tell(page, DAYS, days);
        return page;
    }

    public int make(int way, int kind, int year, int days) {
        if (!roads.has(way)) return UNKNOWN;
        if (!isKind(kind) || !isYear(year) || !isWithin(days, 0, MOST_DAYS)) return BAD;
        int page = book.add(MAKE);
        book.tell(page, WAY, way);
        book.tell(page, KIND, kind);
        book.tell(page, YEAR, year);
        book.tell(page, DAYS, days);
        return page;
    }

    public int strike(int page) {
        if (!book.has(page)) return UNKNOWN;
        if (book.read(page, SORT) == STRIKE || book.strikeOn(page) != NONE) return STATE;
        return book.addStrike(page);
    }

    public int statute(int needs, int persons, int gaps, int weight) {
        if (!isWithin(needs, 1, MOST_NEEDS) || !isWithin(persons, 1, MOST_PERSONS)) return BAD;
        if (!isWithin(gaps, 0, MOST_GAPS) || !isWithin(weight, 1, MOST_STATUTE_WEIGHT)) return BAD;
        int page = book.add(STATUTE);
        book.tell(page, NEEDS, needs);
        book.tell(page, PERSONS, persons);
        book.tell(page, GAPS, gaps);
        book.tell(page, WEIGHT, weight);
        return page;
    }

    public int page(int page, int sort, int what) {
        if (!book.has(page)) return UNKNOWN;
        if (!isWithin(sort, WALK, ANY) || !isWithin(what, 0, WHATS - 1)) return BAD;
        if (!isTakenAs(book.read(page, SORT), sort)) return CAST;
        return book.read(page, what);
    }

    public int counts(int page, int as) {
        if (!book.has(page) || !book.hasAs(as)) return UNKNOWN;
        return yes(book.isCounted(page, book.lastOf(as), NONE));
    }

    // ---- what is in force

    public int persons(int way, int kind, int year, int as) {
        int refusal = refusalOf(way, kind, year, as);
        if (refusal != 0) return refusal;
        sight.look(way, book.lastOf(as), NONE);
        return sight.spans.personsIn(kind, year);
    }

    public int holds(int way, int kind, int end, int as) {
        int refusal = refusalOf(way, kind, end, as);
        if (refusal != 0) return refusal;
        sight.look(way, book.lastOf(as), NONE);
        sight.spans.reckon(kind);
        return yes(sight.spans.latestEnd(kind, end) == end);
    }

    public int lacking(int way, int kind, int end, int as) {
        int refusal = refusalOf(way, kind, end, as);
        if (refusal != 0) return refusal;
        sight.look(way, book.lastOf(as), NONE);
        sight.spans.reckon(kind);
        return sight.spans.fewIn(kind, end);
    }

    public int papers(int way, int kind, int as) {
        int refusal = refusalOf(way, kind, 0, as);
        if (refusal != 0) return refusal;
        sight.look(way, book.lastOf(as), NONE);
        return sight.weightOf(kind);
    }

    public int force(int way, int kind, int year, int as) {
        int refusal = refusalOf(way, kind, year, as);
        if (refusal != 0) return refusal;
        sight.look(way, book.lastOf(as), NONE);
        return sight.ground(kind, year);
    }

    public int most(int way, int year, int as) {
        int refusal = refusalOf(way, FOOT, year, as);
        if (refusal != 0) return refusal;
        sight.look(way, book.lastOf(as), NONE);
        for (int kind = KINDS - 1; kind >= 0; kind--) {
            if (sight.ground(kind, year) != BY_NOTHING) return kind;
        }
        return NONE;
    }

    public int since(int way, int kind, int as) {
        int refusal = refusalOf(way, kind, 0, as);
        if (refusal != 0) return refusal;
        sight.look(way, book.lastOf(as), NONE);
        for (int year = 0; year < YEARS; year++) {
            if (sight.ground(kind, year) != BY_NOTHING) return year;
        }
        return NONE;
    }

    public int good(int page, int as) {
        if (!book.has(page) || !book.hasAs(as)) return UNKNOWN;
        if (!isOrder(book.read(page, SORT))) return CAST;
        sight.look(book.read(page, WAY), book.lastOf(as), NONE);
        return yes(sight.hasGood(page));
    }

    public int leans(int page, int way, int kind, int year, int as) {
        if (!book.has(page)) return UNKNOWN;
        int refusal = refusalOf(way, kind, year, as);
        if (refusal != 0) return refusal;
        return yes(leaning.isOn(page, way, kind, year, book.lastOf(as)));
    }

    public int lean(int i, int way, int kind, int year, int as) {
        int refusal = refusalOf(way, kind, year, as);
        if (refusal != 0) return refusal;
        leaning.find(way, kind, year, book.lastOf(as));
        return leaning.pageAt(i);
    }

    // ---- from here to there

    public int steps(int from, int to, int kind, int year, int as) {
        if (!isPlace(to)) return UNKNOWN;
        int refusal = refusalFrom(from, kind, year, as);
        if (refusal != 0) return refusal;
        measure(to, kind, year, as);
        return roads.farOf(from);
    }

    public int first(int from, int to, int kind, int year, int as) {
        if (!isPlace(to)) return UNKNOWN;
        int refusal = refusalFrom(from, kind, year, as);
        if (refusal != 0) return refusal;
        measure(to, kind, year, as);
        return roads.wayNearer(from);
    }

    public int reach(int from, int kind, int year, int as) {
        int refusal = refusalFrom(from, kind, year, as);
        if (refusal != 0) return refusal;
        measure(from, kind, year, as);
        return roads.comeTo();
    }

    public int total(int what) {
        if (what == 0) return roads.size;
        if (what == 1) return book.size;
        if (what == 2) return book.struck;
        if (what == 3) return goodOrders();
        return BAD;
    }

    // ---- helpers

    /** The refusal of what is asked of a way, or 0. */
    private int refusalOf(int way, int kind, int year, int as) {
        if (!roads.has(way) || !book.hasAs(as)) return UNKNOWN;
        return isKind(kind) && isYear(year) ? 0 : BAD;
    }

    /** The refusal of what is asked from a place, or 0. */
    private int refusalFrom(int place, int kind, int year, int as) {
        if (!isPlace(place) || !book.hasAs(as)) return UNKNOWN;
        return isKind(kind) && isYear(year) ? 0 : BAD;
    }

    /** Opens the roads that are in force and measures how far each place is from one. */
    private void measure(int start, int kind, int year, int as) {
        int last = book.lastOf(as);
        for (int way = 0; way < roads.size; way++) {
            sight.look(way, last, NONE);
            roads.open(way, sight.ground(kind, year) != BY_NOTHING);
        }
        roads.measureFrom(start);
    }

    private int goodOrders() {
        int sum = 0;
        for (int way = 0; way < roads.size; way++) {
            sight.look(way, book.lastOf(NONE), NONE);
            sum += sight.goodCount;
        }
        return sum;
    }

    private static boolean isWithin(int number, int least, int greatest) {
        return number >= least && number <= greatest;
    }

    private static boolean isPlace(int place) {
        return isWithin(place, 0, PLACES - 1);
    }

    private static boolean isKind(int kind) {
        return isWithin(kind, 0, KINDS - 1);
    }

    private static boolean isYear(int year) {
        return isWithin(year, 0, YEARS - 1);
    }

    private static boolean isOrder(int sort) {
        return sort == STOP || sort == MAKE;
    }

    private static boolean isTakenAs(int sort, int asked) {
        return asked == ANY || asked == sort || asked == STOP && isOrder(sort);
    }

    private static int yes(boolean so) {
        return so ? 1 : 0;
    }

    private static int at(int[] row, int i) {
        return i >= 0 && i < row.length ? row[i] : NONE;
    }

    private static void put(int[] row, int i, int number) {
        if (i >= 0 && i < row.length) row[i] = number;
    }

    /** The pages, each a row of what it tells. */
    private static final class Book {
        private final int[] told = new int[PAGES * WHATS];
        private final int[] strikes = new int[PAGES];
        private int size = 0;
        private int orders = 0;
        private int struck = 0;

        boolean has(int page) {
            return page >= 0 && page < size;
        }

        boolean hasAs(int as) {
            return as == NONE || has(as);
        }

        /** The last page that is looked at: what is asked as of it answers the same for ever. */
        int lastOf(int as) {
            return as == NONE ? size - 1 : as;
        }

        /** A new page that tells its sort alone, or FULL, which is no page, so that tell() leaves it alone. */
        int add(int sort) {
            if (size >= PAGES || isOrder(sort) && orders >= ORDERS) return FULL;
            int page = size;
            size++;
            if (isOrder(sort)) orders++;
            for (int what = 0; what < WHATS; what++) tell(page, what, NONE);
            tell(page, SORT, sort);
            put(strikes, page, NONE);
            return page;
        }

        int addStrike(int page) {
            int strike = add(STRIKE);
            if (!has(strike)) return strike;
            tell(strike, STRUCK, page);
            put(strikes, page, strike);
            struck++;
            return strike;
        }

        void tell(int page, int what, int number) {
            if (has(page) && isWithin(what, 0, WHATS - 1)) put(told, page * WHATS + what, number);
        }

        int read(int page, int what) {
            if (page < 0 || page >= size || what < 0 || what >= WHATS) return NONE;
            int i = page * WHATS + what;
            return i < told.length ? told[i] : NONE;
        }

        /** The page that strikes this one, or NONE. */
        int strikeOn(int page) {
            return has(page) ? at(strikes, page) : NONE;
        }

        /** Whether a page counts as of the last one, if one page (or NONE) were left out. */
        boolean isCounted(int page, int last, int without) {
            if (!has(page) || page > last || page == without) return false;
            int strike = strikeOn(page);
            return strike == NONE || strike > last || strike == without;
        }

        /** Whether a way's force could be another one without the page. */
        boolean bearsOn(int page, int way) {
            int subject = read(page, SORT) == STRIKE ? read(page, STRUCK) : page;
            return read(subject, SORT) == STATUTE || read(subject, WAY) == way;
        }
    }

    /** Who went one way in which years, where it broke, and so which spans hold. */
    private static final class Spans {
        // Rows of years, one row a kind. The witnesses of a year stand as bits, by the kind of their walks alone.
        private final int[] went = new int[KINDS * YEARS];
        // The years up to one that have too few persons, and the latest end up to it of a span that holds.
        private final int[] lacks = new int[KINDS * YEARS];
        private final int[] ends = new int[KINDS * YEARS];
        private final int[] reckoned = new int[KINDS];
        private final int[] breaks = new int[YEARS];
        private int needs = FIRST_NEEDS;
        private int persons = FIRST_PERSONS;
        private int gaps = FIRST_GAPS;

        void clear() {
            Arrays.fill(went, 0);
            Arrays.fill(reckoned, 0);
            Arrays.fill(breaks, 0);
        }

        void rule(int newNeeds, int newPersons, int newGaps) {
            needs = newNeeds;
            persons = newPersons;
            gaps = newGaps;
        }

        void addWalk(int witness, int kind, int from, int to) {
            int bit = 1 << witness;
            int slot = kind * YEARS + from;
            int lastSlot = kind * YEARS + to;
            for (; slot >= 0 && slot <= lastSlot && slot < went.length; slot++) went[slot] |= bit;
        }

        void addBreak(int year) {
            put(breaks, year, 1);
        }

        int personsIn(int kind, int year) {
            int bits = 0;
            for (int slot = kind * YEARS + year; slot >= 0 && slot < went.length; slot += YEARS) bits |= went[slot];
            return Integer.bitCount(bits);
        }

        /** Makes a kind's rows when they are first asked for: most looks ask for few kinds, and many for none. */
        void reckon(int kind) {
            if (at(reckoned, kind) != 0) return;
            put(reckoned, kind, 1);
            int lacking = 0, lastBreak = NONE, latest = NONE;
            for (int end = 0; end < YEARS; end++) {
                if (personsIn(kind, end) < persons) lacking++;
                put(lacks, kind * YEARS + end, lacking);
                if (at(breaks, end) == 1) lastBreak = end;
                int begin = beginOf(end);
                if (begin >= 0 && lastBreak < begin && fewIn(kind, end) <= gaps) latest = end;
                put(ends, kind * YEARS + end, latest);
            }
        }

        /** The years with too few persons of the span that ends in a year, or NONE; of a kind that is reckoned. */
        int fewIn(int kind, int end) {
            int begin = beginOf(end);
            if (begin < 0) return NONE;
            int ahead = begin == 0 ? 0 : at(lacks, kind * YEARS + begin - 1);
            return at(lacks, kind * YEARS + end) - ahead;
        }

        /** The latest year up to this one in which a span ends that holds, or NONE; of a kind that is reckoned. */
        int latestEnd(int kind, int year) {
            return at(ends, kind * YEARS + year);
        }

        int beginOf(int end) {
            return end - needs + 1;
        }
    }

    /** What the book says of one way as of a page, if one page (or NONE) were left out. */
    private static final class Sight {
        private final Book book;
        private final Spans spans = new Spans();
        private final int[] weights = new int[KINDS];
        private final int[] orders = new int[ORDERS];
        private final int[] goods = new int[ORDERS];
        private int orderCount = 0;
        private int goodCount = 0;
        private int weightNeeded = FIRST_WEIGHT;
        private int way = NONE;
        private int last = NONE;
        private int without = NONE;

        Sight(Book book) {
            this.book = book;
        }

        void look(int newWay, int newLast, int newWithout) {
            // What was seen as of a page stays so, whatever is added later.
            if (way == newWay && last == newLast && without == newWithout) return;
            way = newWay;
            last = newLast;
            without = newWithout;
            spans.clear();
            Arrays.fill(weights, 0);
            orderCount = 0;
            goodCount = 0;
            int statute = NONE;
            for (int page = 0; page <= last && page < PAGES; page++) {
                if (!book.isCounted(page, last, without)) continue;
                if (book.read(page, SORT) == STATUTE) statute = page;
                if (book.read(page, WAY) == way) take(page);
            }
            rule(statute);
            judge();
        }

        private void take(int page) {
            int sort = book.read(page, SORT);
            int kind = book.read(page, KIND);
            int year = book.read(page, YEAR);
            if (sort == WALK) spans.addWalk(book.read(page, WITNESS), kind, year, book.read(page, LAST_YEAR));
            if (sort == PAPER) put(weights, kind, at(weights, kind) + book.read(page, WEIGHT));
            if (sort == BREAK) spans.addBreak(year);
            if (isOrder(sort)) insertOrder(page, year);
        }

        /** Pages are taken as they come, so behind all of the same year is where a page belongs. */
        private void insertOrder(int page, int year) {
            if (orderCount >= ORDERS) return;
            int place = orderCount;
            while (place > 0 && book.read(at(orders, place - 1), YEAR) > year) {
                put(orders, place, at(orders, place - 1));
                place--;
            }
            put(orders, place, page);
            orderCount++;
        }

        private void rule(int statute) {
            if (statute == NONE) {
                spans.rule(FIRST_NEEDS, FIRST_PERSONS, FIRST_GAPS);
                weightNeeded = FIRST_WEIGHT;
                return;
            }
            spans.rule(book.read(statute, NEEDS), book.read(statute, PERSONS), book.read(statute, GAPS));
            weightNeeded = book.read(statute, WEIGHT);
        }

        /** Each order is judged by the good ones ahead of it, which are all that goods holds by then. */
        private void judge() {
            for (int i = 0; i < orderCount; i++) {
                int page = at(orders, i);
                if (book.read(page, DAYS) < LEAST_NOTICE) continue;
                boolean isStop = book.read(page, SORT) == STOP;
                int ground = ground(isStop ? FOOT : book.read(page, KIND), book.read(page, YEAR));
                if (isStop == (ground == BY_NOTHING)) continue;
                put(goods, goodCount, page);
                goodCount++;
            }
        }

        boolean hasGood(int page) {
            for (int i = 0; i < goodCount; i++) {
                if (at(goods, i) == page) return true;
            }
            return false;
        }

        int weightOf(int kind) {
            int sum = 0;
            for (int shown = kind; shown < KINDS; shown++) sum += at(weights, shown);
            return sum;
        }

        /** By what the way is in force for a kind in a year, as far as its orders are judged. */
        int ground(int kind, int year) {
            int order = latestGood(year);
            int behind = book.read(order, YEAR);
            if (book.read(order, SORT) == MAKE && kind <= book.read(order, KIND)) return BY_MAKE;
            if (order == NONE && weightOf(kind) >= weightNeeded) return BY_PAPERS;
            spans.reckon(kind);
            int end = spans.latestEnd(kind, year);
            return end != NONE && spans.beginOf(end) > behind ? BY_USE : BY_NOTHING;
        }

        private int latestGood(int year) {
            for (int i = goodCount - 1; i >= 0; i--) {
                int order = at(goods, i);
                if (book.read(order, YEAR) <= year) return order;
            }
            return NONE;
        }
    }

    /** On which pages a way's force leans. */
    private static final class Leaning {
        private final Book book;
        private final Sight whole;
        private final Sight lessened;
        private final int[] pages = new int[PAGES];
        private int size = 0;
        private int way = NONE;
        private int kind = NONE;
        private int year = NONE;
        private int last = NONE;

        Leaning(Book book, Sight whole) {
            this.book = book;
            this.whole = whole;
            lessened = new Sight(book);
        }

        boolean isOn(int page, int ofWay, int ofKind, int ofYear, int asLast) {
            if (!isNear(page, ofWay, asLast)) return false;
            whole.look(ofWay, asLast, NONE);
            lessened.look(ofWay, asLast, page);
            return whole.ground(ofKind, ofYear) != lessened.ground(ofKind, ofYear);
        }

        /** Finds all such pages, once for a row of calls that ask for the first, the second and so on. */
        void find(int ofWay, int ofKind, int ofYear, int asLast) {
            if (way == ofWay && kind == ofKind && year == ofYear && last == asLast) return;
            way = ofWay;
            kind = ofKind;
            year = ofYear;
            last = asLast;
            size = 0;
            whole.look(way, last, NONE);
            int ground = whole.ground(kind, year);
            for (int page = 0; page <= last && page < PAGES; page++) {
                if (!isNear(page, way, last)) continue;
                lessened.look(way, last, page);
                if (lessened.ground(kind, year) == ground) continue;
                put(pages, size, page);
                size++;
            }
        }

        /** The pages left aside say nothing of the way, so that they need no look without them. */
        private boolean isNear(int page, int ofWay, int asLast) {
            return book.isCounted(page, asLast, NONE) && book.bearsOn(page, ofWay);
        }

        int pageAt(int i) {
            return i < size ? at(pages, i) : NONE;
        }
    }

    /** The ways between places, which of them are open, and how far the places are by these. */
    private static final class Roads {
        private final int[] starts = new int[WAYS];
        private final int[] ends = new int[WAYS];
        private final int[] opened = new int[WAYS];
        private final int[] far = new int[PLACES];
        private int size = 0;

        boolean has(int way) {
            return way >= 0 && way < size;
        }

        int add(int a, int b) {
            if (size >= WAYS) return FULL;
            put(starts, size, a);
            put(ends, size, b);
            size++;
            return size - 1;
        }

        void open(int way, boolean so) {
            put(opened, way, yes(so));
        }

        void measureFrom(int start) {
            Arrays.fill(far, NONE);
            put(far, start, 0);
            for (int step = 1; step < PLACES; step++) {
                for (int way = 0; way < size; way++) {
                    if (at(opened, way) == 0) continue;
                    goOn(at(starts, way), at(ends, way), step);
                    goOn(at(ends, way), at(starts, way), step);
                }
            }
        }

        private void goOn(int here, int there, int step) {
            if (farOf(here) == step - 1 && farOf(there) == NONE) put(far, there, step);
        }

        /** How far a place is from where the measure began, or NONE. */
        int farOf(int place) {
            return at(far, place);
        }

        /** The least open way by which a place's next one is nearer to where the measure began, or NONE. */
        int wayNearer(int place) {
            int nearer = farOf(place) - 1;
            if (nearer < 0) return NONE;
            for (int way = 0; way < size; way++) {
                if (at(opened, way) == 0) continue;
                if (at(starts, way) == place && farOf(at(ends, way)) == nearer) return way;
                if (at(ends, way) == place && farOf(at(starts, way)) == nearer) return way;
            }
            return NONE;
        }

        int comeTo() {
            int sum = 0;
            for (int place = 0; place < PLACES; place++) {
                if (farOf(place) != NONE) sum++;
            }
            return sum;
        }
    }
}
