/** Each promise by hand: ordinary calls, the edges that the document names, and wrong arguments. */
public final class PromisesTest {
    private static final int NONE = ShireWays.NONE, UNKNOWN = ShireWays.UNKNOWN, BAD = ShireWays.BAD;
    private static final int STATE = ShireWays.STATE, FULL = ShireWays.FULL, CAST = ShireWays.CAST;
    private static final int MOST = Integer.MAX_VALUE, LEAST = Integer.MIN_VALUE;

    private static int wrong = 0;
    private static int calls = 0;

    private static void due(int promise, String what, int got, int want) {
        calls++;
        if (got == want) return;
        wrong++;
        System.out.println("promise " + promise + ": " + what + " answered " + got + ", due is " + want);
    }

    private static ShireWays withWays(int ways) {
        ShireWays x = new ShireWays();
        for (int way = 0; way < ways; way++) x.way(way % 9, way % 9 + 1);
        return x;
    }

    private static ShireWays full() {
        ShireWays x = withWays(1);
        for (int page = 0; page < 100; page++) x.broke(0, page);
        return x;
    }

    private static void newObject() {
        ShireWays x = new ShireWays();
        for (int what = 0; what <= 3; what++) due(1, "total", x.total(what), 0);
        due(1, "page", x.page(0, 7, 0), UNKNOWN);
        due(1, "force of no way", x.force(0, 0, 0, NONE), UNKNOWN);
        int[] constants = {UNKNOWN, BAD, STATE, FULL, NONE, CAST};
        int[] dueOnes = {-1, -2, -3, -4, -9, -13};
        for (int i = 0; i < constants.length; i++) due(1, "constant", constants[i], dueOnes[i]);
        due(1, "first way", x.way(0, 1), 0);
        due(1, "first page", x.statute(1, 1, 0, 1), 0);
        ShireWays other = new ShireWays();
        due(1, "another one", other.total(1), 0);
    }

    private static void ways() {
        ShireWays x = new ShireWays();
        int[] no = {-1, 10, NONE, MOST, LEAST};
        for (int place : no) {
            due(2, "no place", x.way(place, 0), UNKNOWN);
            due(2, "no place", x.way(0, place), UNKNOWN);
            due(2, "no place twice", x.way(place, place), UNKNOWN);
        }
        due(2, "one place", x.way(9, 9), STATE);
        due(2, "nothing was changed", x.total(0), 0);
        for (int way = 0; way < 12; way++) due(2, "way", x.way(way % 2 * 9, 3), way);
        due(2, "the 13th", x.way(0, 9), FULL);
        due(2, "one place ahead of full", x.way(4, 4), STATE);
        due(2, "no place ahead of full", x.way(4, 10), UNKNOWN);
        due(2, "12 ways", x.total(0), 12);
    }

    private static void walks() {
        ShireWays x = withWays(2);
        due(3, "walk", x.walk(0, 0, 0, 0, 0), 0);
        due(3, "walk", x.walk(19, 1, 2, 0, 100), 1);
        due(3, "witness", x.walk(20, 0, 0, 0, 0), UNKNOWN);
        due(3, "witness", x.walk(-1, 0, 3, 0, 0), UNKNOWN);
        due(3, "way", x.walk(0, 2, 0, 5, 4), UNKNOWN);
        due(3, "way", x.walk(0, -1, 0, 0, 0), UNKNOWN);
        due(3, "kind", x.walk(0, 0, 3, 0, 0), BAD);
        due(3, "kind", x.walk(0, 0, -1, 0, 0), BAD);
        due(3, "from", x.walk(0, 0, 0, 8, 7), BAD);
        due(3, "from", x.walk(0, 0, 0, -1, 7), BAD);
        due(3, "to", x.walk(0, 0, 0, 7, 101), BAD);
        due(3, "to", x.walk(0, 0, 0, 0, MOST), BAD);
        due(3, "from and to", x.walk(0, 0, 0, LEAST, LEAST), BAD);
        due(3, "two pages", x.total(1), 2);
        due(3, "each year", x.persons(1, 2, 100, NONE), 1);
        due(3, "100 is full", full().walk(0, 0, 0, 0, 0), FULL);
        due(3, "bad ahead of full", full().walk(0, 0, 3, 0, 0), BAD);
        due(3, "unknown ahead of full", full().walk(0, 1, 0, 0, 0), UNKNOWN);
    }

    private static void papers() {
        ShireWays x = withWays(1);
        due(4, "paper", x.paper(0, 0, 1), 0);
        due(4, "paper", x.paper(0, 2, 9), 1);
        due(4, "way", x.paper(1, 3, 0), UNKNOWN);
        due(4, "kind", x.paper(0, 3, 1), BAD);
        due(4, "kind", x.paper(0, -1, 1), BAD);
        due(4, "weight", x.paper(0, 0, 0), BAD);
        due(4, "weight", x.paper(0, 0, 10), BAD);
        due(4, "two pages", x.total(1), 2);
        due(4, "full", full().paper(0, 0, 1), FULL);
        due(4, "bad ahead of full", full().paper(0, 0, 0), BAD);
        due(15, "papers for foot", x.papers(0, 0, NONE), 10);
        due(15, "papers for horse", x.papers(0, 1, NONE), 9);
        due(15, "papers for cart", x.papers(0, 2, NONE), 9);
        due(15, "papers as of the first", x.papers(0, 1, 0), 0);
        due(15, "papers as of the first", x.papers(0, 0, 0), 1);
        due(15, "way", x.papers(1, 3, NONE), UNKNOWN);
        due(15, "as", x.papers(0, 3, 2), UNKNOWN);
        due(15, "kind", x.papers(0, 3, NONE), BAD);
        due(15, "kind", x.papers(0, -1, NONE), BAD);
        x.strike(1);
        due(15, "papers, one struck", x.papers(0, 0, NONE), 1);
        due(15, "papers ahead of the strike", x.papers(0, 0, 1), 10);
        ShireWays other = withWays(2);
        other.paper(1, 1, 5);
        due(15, "papers of another way", other.papers(0, 0, NONE), 0);
    }

    private static void breaksAndOrders() {
        ShireWays x = withWays(1);
        due(5, "broke", x.broke(0, 0), 0);
        due(5, "broke", x.broke(0, 100), 1);
        due(5, "way", x.broke(1, 101), UNKNOWN);
        due(5, "year", x.broke(0, 101), BAD);
        due(5, "year", x.broke(0, -1), BAD);
        due(5, "full", full().broke(0, 0), FULL);
        due(5, "bad ahead of full", full().broke(0, 101), BAD);
        due(6, "stop", x.stop(0, 100, 365), 2);
        due(6, "way", x.stop(1, 101, 366), UNKNOWN);
        due(6, "year", x.stop(0, 101, 0), BAD);
        due(6, "year", x.stop(0, -1, 0), BAD);
        due(6, "days", x.stop(0, 0, 366), BAD);
        due(6, "days", x.stop(0, 0, -1), BAD);
        due(6, "full", full().stop(0, 0, 0), FULL);
        due(7, "make", x.make(0, 2, 100, 365), 3);
        due(7, "way", x.make(-1, 3, 101, 366), UNKNOWN);
        due(7, "kind", x.make(0, 3, 0, 0), BAD);
        due(7, "kind", x.make(0, -1, 0, 0), BAD);
        due(7, "year", x.make(0, 0, 101, 0), BAD);
        due(7, "days", x.make(0, 0, 0, 366), BAD);
        due(7, "days", x.make(0, 0, 0, -1), BAD);
        due(7, "full", full().make(0, 0, 0, 0), FULL);
        for (int order = 2; order < 20; order++) x.stop(0, order, 0);
        due(6, "the 21st order", x.stop(0, 0, 0), FULL);
        due(7, "the 21st order", x.make(0, 0, 0, 0), FULL);
        due(6, "bad ahead of full", x.stop(0, 101, 0), BAD);
        due(7, "bad ahead of full", x.make(0, 3, 0, 0), BAD);
        due(5, "no order", x.broke(0, 7), 22);
        x.strike(2);
        due(6, "a struck order stays in the book", x.stop(0, 0, 0), FULL);
    }

    private static void strikes() {
        ShireWays x = withWays(1);
        due(8, "no page", x.strike(0), UNKNOWN);
        due(8, "NONE", x.strike(NONE), UNKNOWN);
        x.paper(0, 0, 9);
        x.statute(1, 1, 0, 9);
        due(8, "itself", x.strike(2), UNKNOWN);
        due(8, "a paper", x.strike(0), 2);
        due(8, "a strike", x.strike(2), STATE);
        due(8, "a struck page", x.strike(0), STATE);
        due(8, "a statute", x.strike(1), 3);
        due(8, "four pages", x.total(1), 4);
        due(8, "full", full().strike(0), FULL);
        due(8, "no page ahead of full", full().strike(100), UNKNOWN);
        ShireWays last = withWays(1);
        for (int page = 0; page < 99; page++) last.broke(0, page);
        due(8, "the last page", last.strike(98), 99);
        due(8, "struck ahead of full", last.strike(98), STATE);
        due(8, "a strike ahead of full", last.strike(99), STATE);
    }

    private static void statutes() {
        ShireWays x = withWays(1);
        due(9, "the least", x.statute(1, 1, 0, 1), 0);
        due(9, "the most", x.statute(40, 4, 5, 30), 1);
        int[][] bad = {{0, 1, 0, 1}, {41, 1, 0, 1}, {1, 0, 0, 1}, {1, 5, 0, 1}, {1, 1, -1, 1}, {1, 1, 6, 1},
            {1, 1, 0, 0}, {1, 1, 0, 31}, {LEAST, 1, 0, 1}, {1, 1, 0, MOST}};
        for (int[] b : bad) {
            due(9, "bad", x.statute(b[0], b[1], b[2], b[3]), BAD);
            due(9, "bad ahead of full", full().statute(b[0], b[1], b[2], b[3]), BAD);
        }
        due(9, "two pages", x.total(1), 2);
        due(9, "full", full().statute(1, 1, 0, 1), FULL);
    }

    private static ShireWays oneOfEach() {
        ShireWays x = withWays(3);
        x.walk(7, 1, 2, 30, 40);
        x.paper(2, 1, 6);
        x.broke(1, 50);
        x.stop(1, 60, 27);
        x.make(2, 0, 70, 28);
        x.statute(11, 3, 4, 29);
        x.strike(2);
        return x;
    }

    private static void pages() {
        int n = NONE;
        int[][] told = {{0, 1, 2, 30, 40, 7, n, n, n, n, n, n}, {1, 2, 1, n, n, n, 6, n, n, n, n, n},
            {2, 1, n, 50, n, n, n, n, n, n, n, n}, {3, 1, n, 60, n, n, n, 27, n, n, n, n},
            {4, 2, 0, 70, n, n, n, 28, n, n, n, n}, {6, n, n, n, n, n, 29, n, n, 11, 3, 4},
            {5, n, n, n, n, n, n, n, 2, n, n, n}};
        int[][] sortsTaken = {{0, 7}, {1, 7}, {2, 7}, {3, 7}, {3, 4, 7}, {6, 7}, {5, 7}};
        for (int page = 0; page < told.length; page++) {
            ShireWays x = oneOfEach();
            for (int sort = 0; sort <= 7; sort++) {
                boolean taken = false;
                for (int s : sortsTaken[page]) taken |= s == sort;
                for (int what = 0; what <= 11; what++) {
                    String call = "page(" + page + ", " + sort + ", " + what + ")";
                    due(10, call, x.page(page, sort, what), taken ? told[page][what] : CAST);
                }
            }
            due(10, "sort", x.page(page, 8, 0), BAD);
            due(10, "sort", x.page(page, -1, 0), BAD);
            due(10, "what", x.page(page, 7, 12), BAD);
            due(10, "what", x.page(page, 7, -1), BAD);
            due(10, "bad ahead of another sort", x.page(page, (page + 1) % 3, 12), BAD);
        }
        due(10, "no page", oneOfEach().page(7, 8, 12), UNKNOWN);
        due(10, "NONE", oneOfEach().page(NONE, 7, 0), UNKNOWN);
    }

    private static void counting() {
        ShireWays x = withWays(1);
        due(11, "no page", x.counts(0, NONE), UNKNOWN);
        x.paper(0, 0, 1);
        x.paper(0, 0, 2);
        x.strike(0);
        x.paper(0, 0, 3);
        due(11, "ahead of the strike", x.counts(0, 0), 1);
        due(11, "ahead of the strike", x.counts(0, 1), 1);
        due(11, "as of the strike", x.counts(0, 2), 0);
        due(11, "behind the strike", x.counts(0, 3), 0);
        due(11, "all pages", x.counts(0, NONE), 0);
        due(11, "the strike itself", x.counts(2, 2), 1);
        due(11, "the strike ahead of it", x.counts(2, 1), 0);
        due(11, "behind that", x.counts(3, 2), 0);
        due(11, "itself", x.counts(3, 3), 1);
        due(11, "all", x.counts(3, NONE), 1);
        due(11, "no page", x.counts(4, 0), UNKNOWN);
        due(11, "NONE as the first", x.counts(NONE, 0), UNKNOWN);
        due(11, "no page as of", x.counts(0, 4), UNKNOWN);
        due(11, "no page as of", x.counts(0, -1), UNKNOWN);
    }

    private static void persons() {
        ShireWays x = withWays(2);
        due(12, "an empty book", x.persons(0, 0, 0, NONE), 0);
        x.walk(0, 0, 0, 10, 20);
        x.walk(0, 0, 2, 15, 25);
        x.walk(1, 0, 1, 20, 20);
        x.walk(2, 1, 2, 0, 100);
        due(12, "ahead", x.persons(0, 0, 9, NONE), 0);
        due(12, "first year", x.persons(0, 0, 10, NONE), 1);
        due(12, "each counts once", x.persons(0, 0, 15, NONE), 1);
        due(12, "two", x.persons(0, 0, 20, NONE), 2);
        due(12, "greater kinds", x.persons(0, 1, 20, NONE), 2);
        due(12, "cart alone", x.persons(0, 2, 20, NONE), 1);
        due(12, "lesser kinds do not show it", x.persons(0, 1, 10, NONE), 0);
        due(12, "last year", x.persons(0, 0, 25, NONE), 1);
        due(12, "behind", x.persons(0, 0, 26, NONE), 0);
        due(12, "as of a page", x.persons(0, 0, 20, 1), 1);
        due(12, "another way", x.persons(1, 0, 100, NONE), 1);
        x.strike(0);
        due(12, "struck", x.persons(0, 0, 10, NONE), 0);
        due(12, "ahead of the strike", x.persons(0, 0, 10, 3), 1);
        refusals(12);
    }

    /** What all that ask of a way, a kind, a year as of a page refuse. */
    private static void refusals(int promise) {
        int[][] asked = {{1, 3, 101, 7, UNKNOWN}, {-1, 0, 0, NONE, UNKNOWN}, {0, 0, 0, 1, UNKNOWN},
            {0, 3, 0, -1, UNKNOWN}, {0, 0, 0, MOST, UNKNOWN}, {LEAST, 0, 0, 0, UNKNOWN}, {0, 3, 0, NONE, BAD},
            {0, -1, 0, 0, BAD}, {0, 0, 101, 0, BAD}, {0, 0, -1, 0, BAD}, {0, MOST, MOST, 0, BAD}};
        for (int[] a : asked) {
            ShireWays x = withWays(1);
            x.paper(0, 0, 1);
            int got = 0;
            if (promise == 12) got = x.persons(a[0], a[1], a[2], a[3]);
            if (promise == 13) got = x.holds(a[0], a[1], a[2], a[3]);
            if (promise == 14) got = x.lacking(a[0], a[1], a[2], a[3]);
            if (promise == 16) got = x.force(a[0], a[1], a[2], a[3]);
            if (promise == 20) got = x.leans(0, a[0], a[1], a[2], a[3]);
            if (promise == 21) got = x.lean(0, a[0], a[1], a[2], a[3]);
            due(promise, "refusal of " + java.util.Arrays.toString(a), got, a[4]);
        }
    }

    private static void spans() {
        ShireWays x = withWays(2);
        due(13, "an empty book", x.holds(0, 0, 50, NONE), 0);
        due(14, "an empty book", x.lacking(0, 0, 50, NONE), 20);
        due(14, "20 years do not fit", x.lacking(0, 0, 18, NONE), NONE);
        due(14, "20 years fit", x.lacking(0, 0, 19, NONE), 20);
        x.walk(0, 0, 0, 0, 18);
        x.walk(1, 0, 1, 0, 19);
        due(13, "one gap", x.holds(0, 0, 19, NONE), 1);
        due(14, "one gap", x.lacking(0, 0, 19, NONE), 1);
        due(13, "two gaps", x.holds(0, 0, 20, NONE), 0);
        due(14, "two gaps", x.lacking(0, 0, 20, NONE), 2);
        due(13, "no room", x.holds(0, 0, 18, NONE), 0);
        due(14, "for horse", x.lacking(0, 1, 19, NONE), 20);
        due(13, "as of a page", x.holds(0, 0, 19, 0), 0);
        x.broke(1, 10);
        due(13, "a break of another way", x.holds(0, 0, 19, NONE), 1);
        x.broke(0, 20);
        due(13, "a break behind", x.holds(0, 0, 19, NONE), 1);
        x.broke(0, 0);
        due(13, "a break in its first year", x.holds(0, 0, 19, NONE), 0);
        due(14, "a break is no lack", x.lacking(0, 0, 19, NONE), 1);
        x.strike(4);
        due(13, "the break struck", x.holds(0, 0, 19, NONE), 1);
        x.broke(0, 19);
        due(13, "a break in its last year", x.holds(0, 0, 19, NONE), 0);
        ShireWays y = withWays(1);
        y.statute(3, 1, 0, 30);
        y.walk(0, 0, 0, 4, 6);
        y.broke(0, 3);
        y.broke(0, 7);
        due(13, "between breaks", y.holds(0, 0, 6, NONE), 1);
        due(13, "the break behind it", y.holds(0, 0, 7, NONE), 0);
        y.statute(1, 4, 5, 30);
        due(13, "gaps of all its years", y.holds(0, 2, 50, NONE), 1);
        due(14, "gaps of all its years", y.lacking(0, 2, 50, NONE), 1);
        due(13, "but for a break", y.holds(0, 2, 7, NONE), 0);
        due(14, "one year from 0", y.lacking(0, 2, 0, NONE), 1);
        y.strike(4);
        due(14, "the earlier statute again", y.lacking(0, 0, 6, NONE), 0);
        y.strike(0);
        due(14, "the first of all again", y.lacking(0, 0, 6, NONE), NONE);
        due(14, "the first of all again", y.lacking(0, 0, 99, NONE), 20);
        refusals(13);
        refusals(14);
    }

    private static void forceByUseAndPapers() {
        ShireWays x = withWays(1);
        due(16, "an empty book", x.force(0, 0, 100, NONE), 0);
        due(17, "an empty book", x.most(0, 100, NONE), NONE);
        due(18, "an empty book", x.since(0, 0, NONE), NONE);
        x.statute(2, 1, 0, 9);
        x.walk(0, 0, 1, 5, 6);
        due(16, "ahead of the span's end", x.force(0, 0, 5, NONE), 0);
        due(16, "in the span's end", x.force(0, 0, 6, NONE), 1);
        due(16, "for ever", x.force(0, 1, 100, NONE), 1);
        due(16, "for a greater kind", x.force(0, 2, 100, NONE), 0);
        due(17, "horse", x.most(0, 6, NONE), 1);
        due(17, "none yet", x.most(0, 5, NONE), NONE);
        due(18, "by use", x.since(0, 1, NONE), 6);
        due(18, "never", x.since(0, 2, NONE), NONE);
        x.paper(0, 0, 8);
        due(16, "too light", x.force(0, 0, 0, NONE), 0);
        x.paper(0, 2, 1);
        due(16, "papers from year 0", x.force(0, 0, 0, NONE), 2);
        due(16, "papers ahead of use", x.force(0, 0, 50, NONE), 2);
        due(16, "use where papers are too light", x.force(0, 1, 50, NONE), 1);
        due(18, "by papers", x.since(0, 0, NONE), 0);
        due(18, "as of a page", x.since(0, 0, 2), 6);
        x.statute(2, 1, 0, 10);
        due(16, "the later statute", x.force(0, 0, 50, NONE), 1);
        x.broke(0, 90);
        due(16, "a break outside of the span", x.force(0, 0, 95, NONE), 1);
        refusals(16);
        ShireWays y = withWays(1);
        y.paper(0, 0, 9);
        due(16, "nine, ahead of any statute", y.force(0, 0, 0, NONE), 0);
        y.paper(0, 0, 1);
        due(16, "ten, ahead of any statute", y.force(0, 0, 0, NONE), 2);
        due(17, "foot alone", y.most(0, 0, NONE), 0);
        y.statute(1, 1, 0, 11);
        due(16, "ten of eleven", y.force(0, 0, 0, NONE), 0);
        due(16, "as of a page ahead of the statute", y.force(0, 0, 0, 1), 2);
        y.strike(2);
        due(16, "the statute struck", y.force(0, 0, 0, NONE), 2);
    }

    private static void ordersNotInTheirOrder() {
        ShireWays x = withWays(1);
        x.stop(0, 40, 30);
        x.make(0, 0, 30, 30);
        x.stop(0, 20, 30);
        x.make(0, 0, 10, 30);
        for (int order = 0; order < 4; order++) due(19, "all are good", x.good(order, NONE), 1);
        due(16, "made", x.force(0, 0, 10, NONE), 3);
        due(16, "stopped", x.force(0, 0, 20, NONE), 0);
        due(16, "made", x.force(0, 0, 39, NONE), 3);
        due(16, "stopped", x.force(0, 0, 40, NONE), 0);
        due(19, "nothing to stop as of it", x.good(0, 0), 0);
        due(19, "nothing to stop as of it", x.good(2, 2), 0);
        due(19, "made already", x.good(1, NONE), 1);
        x.strike(2);
        due(19, "made already, the stop struck", x.good(1, NONE), 0);
        x.make(0, 0, 20, 30);
        due(19, "made already in 10", x.good(5, NONE), 0);
    }

    private static void forceByOrders() {
        ShireWays x = withWays(1);
        x.statute(3, 1, 0, 1);
        x.paper(0, 2, 9);
        x.walk(0, 0, 0, 0, 100);
        x.stop(0, 10, 28);
        due(16, "ahead of the stop", x.force(0, 2, 9, NONE), 2);
        due(16, "stopped", x.force(0, 0, 10, NONE), 0);
        due(16, "no span begins behind it yet", x.force(0, 0, 12, NONE), 0);
        due(16, "a span begins behind it", x.force(0, 0, 13, NONE), 1);
        due(16, "papers are over", x.force(0, 2, 100, NONE), 0);
        x.make(0, 1, 20, 28);
        due(19, "in force for foot, not for horse", x.good(4, NONE), 1);
        due(16, "made", x.force(0, 1, 20, NONE), 3);
        due(16, "made for a lesser kind", x.force(0, 0, 20, NONE), 3);
        due(16, "made for no greater kind", x.force(0, 2, 20, NONE), 0);
        due(17, "made", x.most(0, 20, NONE), 1);
        due(18, "papers ahead of the stop", x.since(0, 1, NONE), 0);
        x.walk(1, 0, 2, 20, 30);
        due(16, "use begins in the make's year", x.force(0, 2, 22, NONE), 0);
        due(16, "use behind a make", x.force(0, 2, 23, NONE), 1);
        x.make(0, 2, 40, 28);
        due(19, "in force for it", x.good(6, NONE), 0);
        x.stop(0, 40, 27);
        due(19, "27 days", x.good(7, NONE), 0);
        x.stop(0, 40, 28);
        due(19, "28 days", x.good(8, NONE), 1);
        x.stop(0, 40, 365);
        due(19, "stopped already", x.good(9, NONE), 0);
        x.make(0, 0, 40, 365);
        due(19, "of one year by page", x.good(10, NONE), 1);
        due(16, "the latest by page", x.force(0, 0, 40, NONE), 3);
        x.stop(0, 5, 28);
        due(19, "by year, not by page", x.good(3, NONE), 1);
        due(16, "use between both stops", x.force(0, 0, 9, NONE), 1);
        due(16, "no papers behind the first", x.force(0, 2, 9, NONE), 0);
        ShireWays y = withWays(2);
        y.make(1, 2, 0, 28);
        due(16, "another way's order", y.force(0, 0, 0, NONE), 0);
        y.stop(0, 0, 28);
        due(19, "nothing to stop", y.good(1, NONE), 0);
        y.make(0, 1, 0, 28);
        due(16, "the void one does not matter", y.force(0, 1, 0, NONE), 3);
        due(16, "ahead of the make's page", y.force(0, 1, 0, 1), 0);
    }

    private static void mostSinceGood() {
        ShireWays x = withWays(1);
        x.make(0, 2, 50, 30);
        x.paper(0, 0, 9);
        due(17, "way", x.most(1, 101, NONE), UNKNOWN);
        due(17, "as", x.most(0, 101, 2), UNKNOWN);
        due(17, "year", x.most(0, 101, NONE), BAD);
        due(17, "year", x.most(0, -1, NONE), BAD);
        due(17, "cart", x.most(0, 50, NONE), 2);
        due(18, "way", x.since(-1, 3, NONE), UNKNOWN);
        due(18, "as", x.since(0, 3, 2), UNKNOWN);
        due(18, "kind", x.since(0, 3, NONE), BAD);
        due(18, "kind", x.since(0, -1, NONE), BAD);
        due(18, "the make's year", x.since(0, 0, NONE), 50);
        due(19, "no page", x.good(2, NONE), UNKNOWN);
        due(19, "NONE", x.good(NONE, NONE), UNKNOWN);
        due(19, "no page as of, ahead of another sort", x.good(1, 2), UNKNOWN);
        due(19, "no order", x.good(1, NONE), CAST);
        due(19, "good", x.good(0, 0), 1);
        x.stop(0, 60, 30);
        due(19, "it does not count yet", x.good(2, 1), 0);
        x.strike(0);
        due(19, "struck", x.good(0, NONE), 0);
        due(19, "what leaned on it", x.good(2, NONE), 0);
        due(19, "ahead of the strike", x.good(2, 2), 1);
        ShireWays last = withWays(1);
        last.make(0, 0, 100, 30);
        due(18, "year 100", last.since(0, 0, NONE), 100);
    }

    private static void leaning() {
        ShireWays x = withWays(2);
        x.statute(2, 1, 0, 5);
        x.paper(0, 0, 5);
        x.walk(0, 0, 0, 3, 4);
        x.statute(2, 1, 0, 4);
        x.broke(1, 3);
        due(20, "a paper: use is another force", x.leans(1, 0, 0, 9, NONE), 1);
        due(20, "a paper: 0 then", x.leans(1, 0, 0, 2, NONE), 1);
        due(20, "a walk that papers make idle", x.leans(2, 0, 0, 9, NONE), 0);
        due(20, "the earlier statute stands in", x.leans(3, 0, 0, 9, NONE), 0);
        due(20, "as of a page ahead of it", x.leans(1, 0, 0, 9, 0), 0);
        due(20, "another way", x.leans(1, 1, 0, 9, NONE), 0);
        due(21, "the first", x.lean(0, 0, 0, 9, NONE), 1);
        due(21, "no second", x.lean(1, 0, 0, 9, NONE), NONE);
        due(21, "no such", x.lean(-1, 0, 0, 9, NONE), NONE);
        due(21, "no such", x.lean(MOST, 0, 0, 9, NONE), NONE);
        due(21, "no such", x.lean(LEAST, 0, 0, 9, NONE), NONE);
        x.strike(1);
        due(20, "the struck one does not count", x.leans(1, 0, 0, 9, NONE), 0);
        due(20, "the strike: papers again", x.leans(5, 0, 0, 9, NONE), 1);
        due(20, "the walk now", x.leans(2, 0, 0, 9, NONE), 1);
        due(20, "but not ahead of the span's end", x.leans(2, 0, 0, 3, NONE), 0);
        due(21, "two of them", x.lean(0, 0, 0, 9, NONE), 2);
        due(21, "two of them", x.lean(1, 0, 0, 9, NONE), 5);
        due(21, "two of them", x.lean(2, 0, 0, 9, NONE), NONE);
        due(21, "ahead of the strike", x.lean(0, 0, 0, 9, 4), 1);
        x.strike(0);
        due(20, "the only statute", x.leans(3, 0, 0, 9, NONE), 1);
        due(20, "a strike on an idle statute", x.leans(6, 0, 0, 9, NONE), 0);
        due(20, "no page", x.leans(7, 0, 0, 9, NONE), UNKNOWN);
        due(20, "NONE", x.leans(NONE, 0, 0, 9, NONE), UNKNOWN);
        due(20, "no page ahead of a bad kind", x.leans(7, 0, 3, 9, NONE), UNKNOWN);
        refusals(20);
        refusals(21);
        due(21, "an empty book", withWays(1).lean(0, 0, 0, 0, NONE), NONE);
        leaningOnOrders();
        leaningAskedInTurn();
    }

    private static void leaningAskedInTurn() {
        ShireWays x = withWays(2);
        x.make(0, 0, 10, 30);
        x.make(1, 1, 10, 30);
        x.make(0, 1, 20, 30);
        for (int turn = 0; turn < 2; turn++) {
            due(21, "page 0", x.lean(0, 0, 0, 10, NONE), 0);
            due(21, "another kind", x.lean(0, 0, 1, 10, NONE), NONE);
            due(21, "another year", x.lean(0, 0, 1, 20, NONE), 2);
            due(21, "another page as of", x.lean(0, 0, 1, 20, 1), NONE);
            due(21, "another way", x.lean(0, 1, 1, 20, 1), 1);
            due(21, "the way again", x.lean(0, 0, 0, 10, NONE), 0);
        }
        x.strike(0);
        due(21, "the book has grown", x.lean(0, 0, 0, 10, NONE), 3);
        due(21, "as of the page ahead", x.lean(0, 0, 0, 10, 2), 0);
    }

    private static void leaningOnOrders() {
        ShireWays x = withWays(1);
        x.make(0, 1, 10, 30);
        x.stop(0, 20, 30);
        x.make(0, 0, 30, 30);
        due(20, "idle: the stop is void then, too", x.leans(0, 0, 0, 30, NONE), 0);
        due(20, "the stop", x.leans(1, 0, 0, 25, NONE), 1);
        due(20, "the make, as nothing is left to stop", x.leans(0, 0, 0, 25, NONE), 0);
        due(20, "the make", x.leans(0, 0, 1, 15, NONE), 1);
        due(20, "a stop, as the later make is void then", x.leans(1, 0, 1, 30, NONE), 1);
        due(21, "it", x.lean(0, 0, 1, 30, NONE), 1);
    }

    private static ShireWays net() {
        ShireWays x = new ShireWays();
        int[][] ends = {{2, 3}, {0, 1}, {1, 0}, {1, 2}, {0, 4}, {4, 3}, {3, 9}, {5, 6}};
        for (int way = 0; way < ends.length; way++) x.way(ends[way][0], ends[way][1]);
        for (int way = 0; way < ends.length; way++) x.make(way, way == 4 ? 0 : 1, 10, 30);
        return x;
    }

    private static void rows() {
        ShireWays x = net();
        int[][] due = {
            {0, 0, 0, 10, 0, NONE}, {0, 3, 0, 10, 2, 4}, {3, 0, 0, 10, 2, 5}, {0, 3, 1, 10, 3, 1},
            {3, 0, 1, 10, 3, 0}, {0, 9, 0, 10, 3, 4}, {9, 0, 1, 100, 4, 6}, {0, 1, 0, 10, 1, 1}, {1, 0, 0, 10, 1, 1},
            {1, 4, 0, 10, 2, 1}, {1, 3, 0, 10, 2, 3}, {0, 5, 0, 10, NONE, NONE}, {5, 6, 0, 10, 1, 7},
            {6, 5, 0, 10, 1, 7}, {0, 1, 2, 10, NONE, NONE}, {0, 1, 0, 9, NONE, NONE}, {8, 8, 2, 0, 0, NONE},
            {7, 8, 0, 100, NONE, NONE}};
        for (int[] d : due) {
            String asked = d[0] + " to " + d[1] + " by " + d[2] + " in " + d[3];
            due(22, asked, x.steps(d[0], d[1], d[2], d[3], NONE), d[4]);
            due(23, asked, x.first(d[0], d[1], d[2], d[3], NONE), d[5]);
        }
        due(22, "as of a page", x.steps(0, 3, 0, 10, 3), 3);
        due(23, "as of a page", x.first(0, 3, 0, 10, 3), 1);
        due(24, "all there", x.reach(0, 0, 10, NONE), 6);
        due(24, "from its end", x.reach(9, 1, 10, NONE), 6);
        due(24, "two", x.reach(5, 0, 10, NONE), 2);
        due(24, "itself", x.reach(7, 0, 10, NONE), 1);
        due(24, "none for cart", x.reach(0, 2, 10, NONE), 1);
        due(24, "as of a page", x.reach(0, 0, 10, 2), 2);
        x.strike(1);
        due(23, "the other way there", x.first(0, 1, 0, 10, NONE), 2);
        x.strike(2);
        due(22, "round", x.steps(0, 1, 0, 10, NONE), 4);
        due(23, "round", x.first(0, 1, 0, 10, NONE), 4);
        due(24, "round", x.reach(0, 0, 10, NONE), 6);
        due(24, "for horse", x.reach(0, 1, 10, NONE), 1);
        longRow();
        rowRefusals();
    }

    private static void longRow() {
        ShireWays x = withWays(9);
        for (int way = 0; way < 9; way++) x.make(way, 0, 0, 28);
        due(22, "nine ways", x.steps(0, 9, 0, 0, NONE), 9);
        due(22, "nine ways back", x.steps(9, 0, 0, 0, NONE), 9);
        due(23, "nine ways back", x.first(9, 0, 0, 0, NONE), 8);
        due(24, "ten places", x.reach(4, 0, 0, NONE), 10);
    }

    private static void rowRefusals() {
        int[][] asked = {{10, 0, 0, 0, NONE, UNKNOWN}, {-1, 3, 0, 0, NONE, UNKNOWN}, {0, 0, 0, 8, 8, UNKNOWN},
            {0, 3, 101, 8, 8, UNKNOWN}, {0, 3, 0, NONE, NONE, BAD}, {0, -1, 0, 0, NONE, BAD},
            {0, 0, 101, 0, NONE, BAD}, {0, 0, -1, 0, NONE, BAD}, {MOST, 3, 101, 0, LEAST, UNKNOWN}};
        int[] as = {NONE, NONE, 8, -1, NONE, 0, NONE, 7, 0};
        ShireWays x = net();
        for (int i = 0; i < asked.length; i++) {
            int[] a = asked[i];
            due(22, "refusal " + i, x.steps(a[0], 1, a[1], a[2], as[i]), a[5]);
            due(23, "refusal " + i, x.first(a[0], 1, a[1], a[2], as[i]), a[5]);
            due(24, "refusal " + i, x.reach(a[0], a[1], a[2], as[i]), a[5]);
            due(22, "the same place, refusal " + i, x.steps(a[0], a[0], a[1], a[2], as[i]), a[5]);
            due(23, "the same place, refusal " + i, x.first(a[0], a[0], a[1], a[2], as[i]), a[5]);
        }
        due(22, "to", x.steps(0, 10, 3, 101, NONE), UNKNOWN);
        due(22, "to", x.steps(0, -1, 0, 0, NONE), UNKNOWN);
        due(23, "to", x.first(0, 10, 3, 101, NONE), UNKNOWN);
        due(23, "to", x.first(0, -1, 0, 0, NONE), UNKNOWN);
    }

    private static void totals() {
        ShireWays x = net();
        due(25, "ways", x.total(0), 8);
        due(25, "pages", x.total(1), 8);
        due(25, "struck", x.total(2), 0);
        due(25, "good", x.total(3), 8);
        x.stop(0, 5, 30);
        x.stop(0, 15, 30);
        x.strike(1);
        due(25, "pages", x.total(1), 11);
        due(25, "struck", x.total(2), 1);
        due(25, "good", x.total(3), 8);
        x.strike(0);
        due(25, "good", x.total(3), 6);
        due(25, "struck", x.total(2), 2);
        int[] bad = {-1, 4, NONE, MOST, LEAST};
        for (int what : bad) due(25, "what", x.total(what), BAD);
    }

    public static void main(String[] args) {
        newObject();
        ways();
        walks();
        papers();
        breaksAndOrders();
        strikes();
        statutes();
        pages();
        counting();
        persons();
        spans();
        forceByUseAndPapers();
        forceByOrders();
        ordersNotInTheirOrder();
        mostSinceGood();
        leaning();
        rows();
        totals();
        System.out.println(calls + " calls, " + wrong + " not as due");
        if (wrong != 0) System.exit(1);
    }
}
