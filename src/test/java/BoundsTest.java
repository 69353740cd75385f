/**
 * Each sentence of the document that names a boundary case, in the document's order, with a test of its own: the last
 * value that is still taken and the first that is not, at both ends, the empty book and the full one. What each call
 * refuses, argument by argument, stands in RefusalsTest. No object gets more than the 512 calls that are promised.
 */
public final class BoundsTest {
    private static final int NONE = ShireWays.NONE, UNKNOWN = ShireWays.UNKNOWN, BAD = ShireWays.BAD;
    private static final int STATE = ShireWays.STATE, FULL = ShireWays.FULL, CAST = ShireWays.CAST;
    private static final int LEAST = Integer.MIN_VALUE, GREATEST = Integer.MAX_VALUE;
    private static final int FOOT = 0, HORSE = 1, CART = 2;

    private static String sentence = "";
    private static int sentences = 0;
    private static int calls = 0;
    private static int wrong = 0;

    private static void says(String text) {
        sentence = text;
        sentences++;
    }

    private static void due(int got, int want, int... asked) {
        calls++;
        if (got == want) return;
        wrong++;
        System.out.println("\"" + sentence + "\" " + java.util.Arrays.toString(asked) + " answered " + got
                + ", due is " + want);
    }

    /** A shire with so many ways in a row, from 0 to 1, from 1 to 2 and so on. */
    private static ShireWays ways(int count) {
        ShireWays x = new ShireWays();
        for (int way = 0; way < count; way++) x.way(way % 9, way % 9 + 1);
        return x;
    }

    /** One way and so many pages, all breaks in YEAR 100. */
    private static ShireWays pages(int count) {
        ShireWays x = ways(1);
        for (int page = 0; page < count; page++) x.broke(0, 100);
        return x;
    }

    /** One way, and this statute as page 0. */
    private static ShireWays under(int needs, int persons, int gaps, int weight) {
        ShireWays x = ways(1);
        x.statute(needs, persons, gaps, weight);
        return x;
    }

    // ---- Terms 1

    private static void places() {
        says("1 PLACES 0 .. 9.");
        for (int place = 0; place <= 9; place++) {
            ShireWays x = new ShireWays();
            due(x.way(place, 9 - place), 0, place);
            due(x.steps(place, place, 0, 0, NONE), 0, place);
            due(x.first(place, place, 0, 0, NONE), NONE, place);
            due(x.reach(place, 0, 0, NONE), 1, place);
        }
        for (int place : new int[] {-1, 10, NONE, LEAST, GREATEST}) {
            ShireWays x = ways(1);
            due(x.way(place, 0), UNKNOWN, place);
            due(x.way(0, place), UNKNOWN, place);
            due(x.way(place, place), UNKNOWN, place);
            due(x.steps(place, 0, 0, 0, NONE), UNKNOWN, place);
            due(x.steps(0, place, 0, 0, NONE), UNKNOWN, place);
            due(x.steps(place, place, 0, 0, NONE), UNKNOWN, place);
            due(x.first(place, 0, 0, 0, NONE), UNKNOWN, place);
            due(x.first(0, place, 0, 0, NONE), UNKNOWN, place);
            due(x.first(place, place, 0, 0, NONE), UNKNOWN, place);
            due(x.reach(place, 0, 0, NONE), UNKNOWN, place);
        }
    }

    private static void twelveWays() {
        says("WAYS 0, 1, .. (12 at most)");
        ShireWays x = new ShireWays();
        for (int way = 0; way < 12; way++) {
            due(x.total(0), way);
            due(x.way(way % 2, 2 + way % 3), way);
        }
        due(x.way(0, 2), FULL);
        due(x.way(8, 9), FULL);
        due(x.total(0), 12);
        due(x.walk(0, 11, 0, 0, 100), 0);
        due(x.paper(11, 0, 9), 1);
        due(x.broke(11, 100), 2);
        due(x.make(11, 0, 50, 28), 3);
        due(x.stop(11, 60, 28), 4);
        due(x.force(11, 0, 50, NONE), 3);
        due(x.force(10, 0, 50, NONE), 0);
        due(x.steps(1, 4, 0, 50, NONE), 1);
        due(x.first(1, 4, 0, 50, NONE), 11);
        due(x.paper(12, 0, 9), UNKNOWN);
        due(x.force(12, 0, 50, NONE), UNKNOWN);
        ShireWays one = ways(1);
        due(one.force(0, 0, 0, NONE), 0);
        due(one.force(1, 0, 0, NONE), UNKNOWN);
        due(new ShireWays().force(0, 0, 0, NONE), UNKNOWN);
    }

    private static void bothWays() {
        says("lead between two unlike PLACES, both ways");
        for (int place = 0; place <= 9; place++) due(new ShireWays().way(place, place), STATE, place);
        ShireWays x = new ShireWays();
        due(x.way(9, 0), 0);
        due(x.way(0, 9), 1);
        x.make(0, 0, 0, 28);
        due(x.steps(0, 9, 0, 0, NONE), 1);
        due(x.steps(9, 0, 0, 0, NONE), 1);
        due(x.first(0, 9, 0, 0, NONE), 0);
        due(x.first(9, 0, 0, 0, NONE), 0);
        due(x.reach(0, 0, 0, NONE), 2);
        due(x.reach(9, 0, 0, NONE), 2);
    }

    private static void years() {
        says("YEARS are 0 .. 100.");
        for (int year : new int[] {0, 100}) {
            ShireWays x = under(1, 1, 0, 1);
            due(x.walk(0, 0, 0, year, year), 1, year);
            due(x.persons(0, 0, year, NONE), 1, year);
            due(x.holds(0, 0, year, NONE), 1, year);
            due(x.lacking(0, 0, year, NONE), 0, year);
            due(x.force(0, 0, year, NONE), 1, year);
            due(x.most(0, year, NONE), 0, year);
            due(x.since(0, 0, NONE), year, year);
            due(x.leans(1, 0, 0, year, NONE), 1, year);
            due(x.lean(1, 0, 0, year, NONE), 1, year);
            due(x.steps(0, 1, 0, year, NONE), 1, year);
            due(x.first(0, 1, 0, year, NONE), 0, year);
            due(x.reach(0, 0, year, NONE), 2, year);
            due(x.broke(0, year), 2, year);
            due(x.holds(0, 0, year, NONE), 0, year);
            due(x.make(0, 0, year, 28), 3, year);
            due(x.force(0, 0, year, NONE), 3, year);
            due(x.stop(0, year, 28), 4, year);
            due(x.force(0, 0, year, NONE), 0, year);
            due(x.good(4, NONE), 1, year);
        }
        ShireWays x = ways(1);
        for (int year : new int[] {-1, 101, NONE, LEAST, GREATEST}) {
            due(x.walk(0, 0, 0, year, 50), BAD, year);
            due(x.walk(0, 0, 0, 50, year), BAD, year);
            due(x.broke(0, year), BAD, year);
            due(x.stop(0, year, 28), BAD, year);
            due(x.make(0, 0, year, 28), BAD, year);
            due(x.persons(0, 0, year, NONE), BAD, year);
            due(x.force(0, 0, year, NONE), BAD, year);
            due(x.steps(0, 0, 0, year, NONE), BAD, year);
        }
        due(x.total(1), 0);
    }

    private static void kinds() {
        says("KINDS of going: 0 FOOT, 1 HORSE, 2 CART; what is shown for a KIND is shown for the lesser ones, too.");
        for (int shown = FOOT; shown <= CART; shown++) {
            ShireWays used = under(1, 1, 0, 30), written = under(1, 1, 0, 9), made = under(1, 1, 0, 30);
            used.walk(0, 0, shown, 50, 50);
            written.paper(0, shown, 9);
            made.make(0, shown, 50, 28);
            for (int kind = FOOT; kind <= CART; kind++) {
                boolean is = kind <= shown;
                due(used.persons(0, kind, 50, NONE), is ? 1 : 0, shown, kind);
                due(used.force(0, kind, 50, NONE), is ? 1 : 0, shown, kind);
                due(written.papers(0, kind, NONE), is ? 9 : 0, shown, kind);
                due(written.force(0, kind, 50, NONE), is ? 2 : 0, shown, kind);
                due(made.force(0, kind, 50, NONE), is ? 3 : 0, shown, kind);
            }
            due(used.most(0, 50, NONE), shown);
            due(written.most(0, 50, NONE), shown);
            due(made.most(0, 50, NONE), shown);
        }
    }

    private static int addAny(ShireWays x, int sort) {
        if (sort == 0) return x.walk(0, 0, 0, 0, 0);
        if (sort == 1) return x.paper(0, 0, 1);
        if (sort == 2) return x.broke(0, 0);
        if (sort == 3) return x.stop(0, 0, 0);
        if (sort == 4) return x.make(0, 0, 0, 0);
        if (sort == 5) return x.strike(0);
        return x.statute(1, 1, 0, 1);
    }

    private static void hundredPages() {
        says("THE BOOK has PAGES 0, 1, .. (100 at most)");
        ShireWays x = ways(1);
        for (int page = 0; page < 100; page++) {
            due(x.total(1), page);
            due(x.broke(0, page), page);
        }
        for (int sort = 0; sort <= 6; sort++) due(addAny(x, sort), FULL, sort);
        due(x.total(1), 100);
        due(x.page(99, 2, 3), 99);
        due(x.page(100, 2, 3), UNKNOWN);
        due(x.counts(99, 99), 1);
        due(x.counts(0, 99), 1);
        due(x.counts(0, 100), UNKNOWN);
        due(x.counts(100, 99), UNKNOWN);
        due(x.total(2), 0);
        for (int sort = 0; sort <= 6; sort++) {
            ShireWays last = pages(99);
            due(addAny(last, sort), 99, sort);
            due(last.page(99, sort, 0), sort, sort);
            due(last.counts(99, 99), 1, sort);
            for (int more = 0; more <= 6; more++) {
                due(more == 5 ? last.strike(1) : addAny(last, more), FULL, sort, more);
            }
            due(last.total(1), 100, sort);
        }
        due(x.way(0, 9), 1);
    }

    private static void twentyWitnesses() {
        says("a WITNESS (0 .. 19)");
        ShireWays x = ways(1);
        for (int witness = 0; witness <= 19; witness++) {
            due(x.walk(witness, 0, 0, 7, 7), witness, witness);
            due(x.persons(0, 0, 7, NONE), witness + 1, witness);
        }
        for (int witness : new int[] {-1, 20, 32, NONE, LEAST, GREATEST}) {
            due(x.walk(witness, 0, 0, 7, 7), UNKNOWN, witness);
            due(x.walk(witness, 0, 3, 101, -1), UNKNOWN, witness);
        }
        due(x.persons(0, 0, 7, NONE), 20);
        due(x.total(1), 20);
    }

    private static void eachYear() {
        says("in each YEAR from one to another one");
        int[][] walks = {{0, 0}, {0, 1}, {0, 100}, {50, 50}, {50, 51}, {99, 100}, {100, 100}};
        for (int[] w : walks) {
            ShireWays x = ways(1);
            due(x.walk(0, 0, 1, w[0], w[1]), 0, w);
            for (int year = 0; year <= 100; year++) {
                due(x.persons(0, 0, year, NONE), year >= w[0] && year <= w[1] ? 1 : 0, w[0], w[1], year);
                due(x.persons(0, 1, year, NONE), year >= w[0] && year <= w[1] ? 1 : 0, w[0], w[1], year);
                due(x.persons(0, 2, year, NONE), 0, w[0], w[1], year);
            }
            due(x.page(0, 0, 3), w[0], w);
            due(x.page(0, 0, 4), w[1], w);
        }
    }

    private static void paperWeights() {
        says("1 PAPER: of a WAY and a KIND, with a WEIGHT (1 .. 9).");
        ShireWays x = ways(2);
        due(x.paper(0, 0, 1), 0);
        due(x.paper(0, 0, 9), 1);
        for (int weight : new int[] {0, 10, -1, LEAST, GREATEST}) due(x.paper(0, 0, weight), BAD, weight);
        due(x.papers(0, 0, NONE), 10);
        due(x.papers(0, 1, NONE), 0);
        due(x.papers(1, 0, NONE), 0);
        ShireWays most = ways(1);
        for (int page = 0; page < 100; page++) most.paper(0, 2, 9);
        due(most.papers(0, 0, NONE), 900);
        due(most.papers(0, 2, 98), 891);
        due(most.papers(0, 2, 0), 9);
    }

    private static void breaksOfOneYear() {
        says("2 BREAK: of a WAY in a YEAR.");
        for (int year : new int[] {0, 50, 100}) {
            ShireWays x = ways(2);
            x.statute(1, 4, 5, 30);
            due(x.broke(1, year), 1, year);
            for (int end = 0; end <= 100; end++) {
                due(x.holds(1, 0, end, NONE), end == year ? 0 : 1, year, end);
                due(x.holds(0, 0, end, NONE), 1, year, end);
            }
        }
    }

    private static void twentyOrders() {
        says("ORDERS (20 at most)");
        ShireWays x = ways(3);
        for (int order = 0; order < 20; order++) {
            due(order % 3 == 0 ? x.stop(order % 2, order, 0) : x.make(order % 2, 0, order, 28), order);
        }
        due(x.make(2, 0, 0, 28), FULL);
        due(x.stop(2, 0, 28), FULL);
        due(x.walk(0, 0, 0, 0, 0), 20);
        due(x.strike(0), 21);
        due(x.strike(19), 22);
        due(x.make(0, 0, 0, 28), FULL);
        due(x.stop(0, 0, 28), FULL);
        due(x.total(1), 23);
        due(x.force(2, 0, 0, NONE), 0);
        ShireWays alike = ways(1);
        for (int order = 0; order < 19; order++) alike.stop(0, 100, 365);
        due(alike.stop(0, 0, 0), 19);
        due(alike.make(0, 0, 0, 28), FULL);
        ShireWays backwards = ways(1);
        for (int order = 0; order < 20; order++) {
            due(order % 2 == 0 ? backwards.make(0, 0, 99 - order, 28) : backwards.stop(0, 99 - order, 28), order);
        }
        due(backwards.total(3), 19);
        due(backwards.good(19, NONE), 0);
        ShireWays inTurn = ways(1);
        for (int order = 0; order < 20; order++) {
            due(order % 2 == 0 ? inTurn.make(0, 2, order, 28) : inTurn.stop(0, order, 28), order);
        }
        due(inTurn.total(3), 20);
        for (int order = 0; order < 20; order++) due(inTurn.good(order, NONE), 1, order);
        for (int order = 0; order < 20; order++) due(inTurn.force(0, 2, order, NONE), order % 2 == 0 ? 3 : 0, order);
    }

    private static void days() {
        says("told with so many DAYS of notice (0 .. 365)");
        ShireWays x = ways(1);
        due(x.stop(0, 0, 0), 0);
        due(x.stop(0, 0, 365), 1);
        due(x.make(0, 0, 0, 0), 2);
        due(x.make(0, 0, 0, 365), 3);
        for (int days : new int[] {-1, 366, NONE, LEAST, GREATEST}) {
            due(x.stop(0, 0, days), BAD, days);
            due(x.make(0, 0, 0, days), BAD, days);
        }
        due(x.page(0, 3, 7), 0);
        due(x.page(1, 3, 7), 365);
        due(x.page(2, 4, 7), 0);
        due(x.page(3, 4, 7), 365);
        due(x.total(1), 4);
    }

    private static void strikes() {
        says("5 STRIKE: of a PAGE ahead of it that is no STRIKE");
        for (int sort = 0; sort <= 6; sort++) {
            ShireWays x = pages(1);
            due(addAny(x, sort), 1, sort);
            due(x.strike(2), UNKNOWN, sort);
            due(x.strike(1), sort == 5 ? STATE : 2, sort);
            due(x.strike(1), STATE, sort);
            due(x.counts(1, NONE), sort == 5 ? 1 : 0, sort);
            due(x.total(2), 1, sort);
        }
        for (int page : new int[] {-1, 1, NONE, LEAST, GREATEST}) due(pages(1).strike(page), UNKNOWN, page);
        due(new ShireWays().strike(0), UNKNOWN);
    }

    private static void countsNotFromTheStrikeOn() {
        says("that does not count from this PAGE on");
        ShireWays x = pages(2);
        x.strike(0);
        x.broke(0, 0);
        for (int as = 0; as <= 3; as++) due(x.counts(0, as), as < 2 ? 1 : 0, as);
        due(x.counts(0, NONE), 0);
        ShireWays ends = pages(99);
        due(ends.strike(0), 99);
        due(ends.counts(0, 98), 1);
        due(ends.counts(0, 99), 0);
        due(ends.counts(98, 99), 1);
        ShireWays near = pages(99);
        due(near.strike(98), 99);
        due(near.counts(98, 98), 1);
        due(near.counts(98, 99), 0);
    }

    private static void statuteBounds() {
        says("6 STATUTE: YEARS it NEEDS (1 .. 40), PERSONS (1 .. 4), GAPS (0 .. 5), WEIGHT (1 .. 30)");
        int[][] ends = {{1, 40}, {1, 4}, {0, 5}, {1, 30}};
        ShireWays x = new ShireWays();
        int page = 0;
        for (int i = 0; i < 4; i++) {
            for (int end = 0; end <= 1; end++) {
                int[] s = {20, 2, 1, 10};
                s[i] = ends[i][end];
                due(x.statute(s[0], s[1], s[2], s[3]), page, s);
                due(x.page(page, 6, i == 3 ? 6 : 9 + i), s[i], s);
                page++;
                for (int far : new int[] {end == 0 ? s[i] - 1 : s[i] + 1, end == 0 ? LEAST : GREATEST}) {
                    int[] bad = s.clone();
                    bad[i] = far;
                    due(x.statute(bad[0], bad[1], bad[2], bad[3]), BAD, bad);
                }
            }
        }
        due(x.total(1), 8);
    }

    private static void statutesAtTheirEnds() {
        says("6 STATUTE, as it is used at its ends");
        ShireWays one = under(1, 1, 0, 1);
        due(one.holds(0, 0, 0, NONE), 0);
        one.walk(0, 0, 0, 0, 0);
        due(one.holds(0, 0, 0, NONE), 1);
        due(one.holds(0, 0, 1, NONE), 0);
        due(one.force(0, 0, 0, NONE), 1);
        one.paper(0, 0, 1);
        due(one.force(0, 0, 0, NONE), 2);
        ShireWays forty = under(40, 4, 5, 30);
        for (int witness = 0; witness < 4; witness++) forty.walk(witness, 0, 0, 5, 39);
        due(forty.lacking(0, 0, 39, NONE), 5);
        due(forty.holds(0, 0, 39, NONE), 1);
        due(forty.lacking(0, 0, 38, NONE), NONE);
        due(forty.holds(0, 0, 38, NONE), 0);
        due(forty.holds(0, 0, 40, NONE), 1);
        due(forty.lacking(0, 0, 45, NONE), 6);
        due(forty.holds(0, 0, 45, NONE), 0);
        due(forty.since(0, 0, NONE), 39);
        ShireWays thirty = under(40, 4, 5, 30);
        for (int page = 0; page < 3; page++) thirty.paper(0, 0, 9);
        thirty.paper(0, 0, 2);
        due(thirty.force(0, 0, 0, NONE), 0);
        thirty.paper(0, 0, 1);
        due(thirty.force(0, 0, 0, NONE), 2);
    }

    private static void firstStatute() {
        says("ahead of any it is 20, 2, 1, 10");
        ShireWays x = ways(1);
        due(x.lacking(0, 0, 18, NONE), NONE);
        due(x.lacking(0, 0, 19, NONE), 20);
        x.walk(0, 0, 0, 0, 40);
        due(x.lacking(0, 0, 19, NONE), 20);
        x.walk(1, 0, 0, 1, 20);
        due(x.lacking(0, 0, 19, NONE), 1);
        due(x.holds(0, 0, 19, NONE), 1);
        due(x.lacking(0, 0, 20, NONE), 0);
        due(x.holds(0, 0, 20, NONE), 1);
        due(x.holds(0, 0, 21, NONE), 1);
        due(x.lacking(0, 0, 22, NONE), 2);
        due(x.holds(0, 0, 22, NONE), 0);
        due(x.since(0, 0, NONE), 19);
        ShireWays y = ways(1);
        y.paper(0, 0, 9);
        due(y.force(0, 0, 0, NONE), 0);
        y.paper(0, 0, 1);
        due(y.force(0, 0, 0, NONE), 2);
        y.statute(40, 4, 0, 11);
        due(y.force(0, 0, 0, NONE), 0);
        due(y.force(0, 0, 0, 1), 2);
        due(y.lacking(0, 0, 38, NONE), NONE);
        due(y.lacking(0, 0, 38, 1), 20);
    }

    private static void asOfAPage() {
        says("Asked as of a PAGE p, what counts are PAGES 0 to p that are not STRUCK by one of these");
        ShireWays x = ways(1);
        x.paper(0, 0, 1);
        x.paper(0, 0, 2);
        x.paper(0, 0, 4);
        x.strike(1);
        x.strike(0);
        int[] due = {1, 3, 7, 5, 4};
        for (int as = 0; as < due.length; as++) due(x.papers(0, 0, as), due[as], as);
        due(x.papers(0, 0, NONE), 4);
        due(x.papers(0, 0, 5), UNKNOWN);
        due(x.papers(0, 0, -1), UNKNOWN);
        due(x.papers(0, 0, LEAST), UNKNOWN);
        due(x.papers(0, 0, GREATEST), UNKNOWN);
        x.paper(0, 0, 8);
        for (int as = 0; as < due.length; as++) due(x.papers(0, 0, as), due[as], as);
        due(x.papers(0, 0, 5), 12);
        due(x.papers(0, 0, NONE), 12);
    }

    private static void latestStatute() {
        says("and the latest STATUTE of them");
        ShireWays x = ways(1);
        x.paper(0, 0, 5);
        x.statute(1, 1, 0, 5);
        x.statute(1, 1, 0, 6);
        x.strike(2);
        x.strike(1);
        x.statute(1, 1, 0, 4);
        int[] due = {0, 2, 0, 2, 0, 2};
        for (int as = 0; as < due.length; as++) due(x.force(0, 0, 0, as), due[as], as);
        due(x.force(0, 0, 0, NONE), 2);
        int[] years = {NONE, 1, 1, 1, NONE, 1};
        for (int as = 0; as < years.length; as++) due(x.lacking(0, 0, 0, as), years[as], as);
    }

    private static void noPagesAtAll() {
        says("(NONE as p: all PAGES; with no PAGES at all nothing counts)");
        ShireWays x = ways(1);
        due(x.persons(0, 0, 0, NONE), 0);
        due(x.holds(0, 0, 100, NONE), 0);
        due(x.lacking(0, 0, 0, NONE), NONE);
        due(x.lacking(0, 2, 100, NONE), 20);
        due(x.papers(0, 0, NONE), 0);
        due(x.force(0, 0, 100, NONE), 0);
        due(x.most(0, 100, NONE), NONE);
        due(x.since(0, 0, NONE), NONE);
        due(x.good(0, NONE), UNKNOWN);
        due(x.leans(0, 0, 0, 0, NONE), UNKNOWN);
        for (int i : new int[] {0, 1, -1, LEAST, GREATEST}) due(x.lean(i, 0, 0, 0, NONE), NONE, i);
        due(x.steps(0, 1, 0, 100, NONE), NONE);
        due(x.steps(0, 0, 0, 100, NONE), 0);
        due(x.first(0, 1, 0, 100, NONE), NONE);
        due(x.reach(0, 0, 100, NONE), 1);
        due(x.counts(0, NONE), UNKNOWN);
        for (int as : new int[] {0, -1, 1, 99, 100, LEAST, GREATEST}) {
            due(x.persons(0, 0, 0, as), UNKNOWN, as);
            due(x.papers(0, 0, as), UNKNOWN, as);
            due(x.force(0, 0, 0, as), UNKNOWN, as);
            due(x.lean(0, 0, 0, 0, as), UNKNOWN, as);
            due(x.steps(0, 0, 0, 0, as), UNKNOWN, as);
            due(x.reach(0, 0, 0, as), UNKNOWN, as);
        }
    }

    private static void noneIsAllPages() {
        says("(NONE as p: all PAGES), while the book grows from the first page to the last");
        ShireWays x = ways(1);
        due(x.papers(0, 0, NONE), 0);
        for (int page = 0; page < 100; page++) {
            due(x.paper(0, 0, 1), page);
            due(x.papers(0, 0, page), page + 1, page);
            due(x.papers(0, 0, NONE), page + 1, page);
            due(x.papers(0, 0, page + 1), UNKNOWN, page);
        }
        due(x.papers(0, 0, 0), 1);
        due(x.papers(0, 0, 99), 100);
        for (int as = 0; as < 6; as++) {
            ShireWays grown = ways(1);
            due(grown.papers(0, 0, NONE), 0, as);
            for (int page = 0; page < 6; page++) grown.paper(0, 0, 1);
            due(grown.papers(0, 0, as), as + 1, as);
            due(grown.lean(0, 0, 0, 0, NONE), NONE, as);
            for (int page = 6; page < 12; page++) grown.paper(0, 0, 1);
            due(grown.papers(0, 0, as + 6), as + 7, as);
            due(grown.lean(0, 0, 0, 0, as + 6), as + 6 == 9 ? 0 : NONE, as);
        }
    }

    // ---- Terms 2

    private static void spanYears() {
        says("2 A SPAN of a WAY and a KIND ends in a YEAR e: the NEEDED YEARS up to e (none below 0).");
        for (int needs : new int[] {1, 2, 20, 39, 40}) {
            ShireWays x = under(needs, 1, 5, 30);
            due(x.lacking(0, 0, needs - 1, NONE), needs, needs);
            due(x.lacking(0, 0, 100, NONE), needs, needs);
            if (needs > 1) {
                due(x.lacking(0, 0, needs - 2, NONE), NONE, needs);
                due(x.lacking(0, 0, 0, NONE), NONE, needs);
            }
            x.walk(0, 0, 0, 0, 100);
            due(x.holds(0, 0, needs - 1, NONE), 1, needs);
            if (needs > 1) due(x.holds(0, 0, needs - 2, NONE), 0, needs);
            if (needs > 1) due(x.holds(0, 0, 0, NONE), 0, needs);
            due(x.since(0, 0, NONE), needs - 1, needs);
            due(x.force(0, 0, needs - 1, NONE), 1, needs);
        }
        ShireWays x = under(40, 1, 0, 30);
        x.walk(0, 0, 0, 0, 39);
        due(x.holds(0, 0, 39, NONE), 1);
        due(x.holds(0, 0, 40, NONE), 0);
        x.walk(0, 0, 0, 61, 100);
        due(x.holds(0, 0, 99, NONE), 0);
        due(x.holds(0, 0, 100, NONE), 1);
    }

    private static void noBreakInIt() {
        says("It HOLDS, if no BREAK is in it");
        int[] breaks = {9, 10, 14, 15};
        int[] holding = {1, 0, 0, 1};
        for (int i = 0; i < breaks.length; i++) {
            ShireWays x = under(5, 1, 0, 30);
            x.walk(0, 0, 0, 0, 100);
            x.broke(0, breaks[i]);
            due(x.holds(0, 0, 14, NONE), holding[i], breaks[i]);
            due(x.lacking(0, 0, 14, NONE), 0, breaks[i]);
        }
        ShireWays first = under(2, 1, 0, 30);
        first.walk(0, 0, 0, 0, 100);
        first.broke(0, 0);
        due(first.holds(0, 0, 1, NONE), 0);
        due(first.holds(0, 0, 2, NONE), 1);
        due(first.since(0, 0, NONE), 2);
        first.broke(0, 100);
        due(first.holds(0, 0, 99, NONE), 1);
        due(first.holds(0, 0, 100, NONE), 0);
        due(first.force(0, 0, 100, NONE), 1);
    }

    private static void gaps() {
        says("in all its YEARS but GAPS of them at most");
        for (int gaps = 0; gaps <= 5; gaps++) {
            ShireWays x = under(10, 1, gaps, 30);
            x.walk(0, 0, 0, 20 + gaps, 29);
            due(x.lacking(0, 0, 29, NONE), gaps, gaps);
            due(x.holds(0, 0, 29, NONE), 1, gaps);
            due(x.lacking(0, 0, 30, NONE), gaps == 0 ? 1 : gaps, gaps);
            ShireWays less = under(10, 1, gaps, 30);
            less.walk(0, 0, 0, 20 + gaps + 1, 29);
            due(less.lacking(0, 0, 29, NONE), gaps + 1, gaps);
            due(less.holds(0, 0, 29, NONE), 0, gaps);
            due(less.since(0, 0, NONE), NONE, gaps);
            ShireWays none = under(gaps + 1, 1, gaps, 30);
            due(none.holds(0, 0, 100, NONE), 0, gaps);
            if (gaps > 0) none.statute(gaps, 1, gaps, 30);
            if (gaps > 0) due(none.holds(0, 0, 100, NONE), 1, gaps);
            if (gaps > 0) due(none.since(0, 2, NONE), gaps - 1, gaps);
        }
        ShireWays between = under(5, 1, 2, 30);
        between.walk(0, 0, 0, 10, 10);
        between.walk(0, 0, 0, 12, 12);
        between.walk(0, 0, 0, 14, 14);
        due(between.lacking(0, 0, 14, NONE), 2);
        due(between.holds(0, 0, 14, NONE), 1);
        due(between.holds(0, 0, 13, NONE), 0);
    }

    private static void personsCountOnce() {
        says("there are at least so many PERSONS: WITNESSES with a WALK of the WAY in that YEAR, of the KIND or a greater"
                + " one (each counts once)");
        for (int persons = 1; persons <= 4; persons++) {
            ShireWays x = under(1, persons, 0, 30);
            for (int witness = 0; witness < persons; witness++) {
                due(x.holds(0, 0, 5, NONE), 0, persons, witness);
                due(x.lacking(0, 0, 5, NONE), 1, persons, witness);
                x.walk(witness * 19 / 3, 0, witness % 3, 5, 5);
                x.walk(witness * 19 / 3, 0, FOOT, 4, 5);
            }
            due(x.persons(0, 0, 5, NONE), persons, persons);
            due(x.holds(0, 0, 5, NONE), 1, persons);
            due(x.lacking(0, 0, 5, NONE), 0, persons);
        }
        ShireWays x = ways(2);
        x.walk(0, 0, FOOT, 5, 9);
        x.walk(0, 0, HORSE, 9, 12);
        x.walk(0, 0, CART, 9, 9);
        x.walk(1, 1, CART, 9, 9);
        due(x.persons(0, FOOT, 9, NONE), 1);
        due(x.persons(0, HORSE, 9, NONE), 1);
        due(x.persons(0, CART, 9, NONE), 1);
        due(x.persons(0, CART, 10, NONE), 0);
        due(x.persons(0, HORSE, 8, NONE), 0);
        due(x.persons(0, FOOT, 8, NONE), 1);
    }

    private static void orderOfOrders() {
        says("ORDERS of a WAY are looked at by YEAR, of one YEAR by PAGE.");
        ShireWays byYear = ways(1);
        byYear.stop(0, 51, 28);
        byYear.make(0, 0, 50, 28);
        due(byYear.good(0, NONE), 1);
        due(byYear.good(1, NONE), 1);
        ShireWays byPage = ways(1);
        byPage.stop(0, 50, 28);
        byPage.make(0, 0, 50, 28);
        due(byPage.good(0, NONE), 0);
        due(byPage.good(1, NONE), 1);
        ShireWays ofOneYear = ways(1);
        ofOneYear.make(0, 0, 100, 28);
        ofOneYear.stop(0, 100, 28);
        ofOneYear.make(0, 2, 100, 28);
        ofOneYear.make(0, 1, 100, 28);
        ofOneYear.stop(0, 100, 28);
        int[] due = {1, 1, 1, 0, 1};
        for (int page = 0; page < 5; page++) due(ofOneYear.good(page, NONE), due[page], page);
        int[] force = {3, 0, 3, 3, 0};
        for (int as = 0; as < 5; as++) due(ofOneYear.force(0, 0, 100, as), force[as], as);
        due(ofOneYear.force(0, 0, 99, NONE), 0);
        ShireWays atBothEnds = ways(1);
        atBothEnds.stop(0, 100, 28);
        atBothEnds.make(0, 0, 0, 28);
        atBothEnds.stop(0, 0, 28);
        atBothEnds.make(0, 1, 0, 28);
        due(atBothEnds.total(3), 4);
        due(atBothEnds.force(0, 1, 0, NONE), 3);
        due(atBothEnds.force(0, 1, 99, NONE), 3);
        due(atBothEnds.force(0, 1, 100, NONE), 0);
    }

    private static void leastNotice() {
        says("One is VOID, if its notice is below 28 DAYS");
        for (int days : new int[] {0, 27, 28, 365}) {
            ShireWays x = ways(1);
            x.make(0, 0, 10, days);
            due(x.good(0, NONE), days >= 28 ? 1 : 0, days);
            due(x.force(0, 0, 10, NONE), days >= 28 ? 3 : 0, days);
            x.make(0, 0, 10, 28);
            x.stop(0, 20, days);
            due(x.good(2, NONE), days >= 28 ? 1 : 0, days);
            due(x.force(0, 0, 20, NONE), days >= 28 ? 0 : 3, days);
            due(x.total(3), days >= 28 ? 2 : 1, days);
        }
    }

    private static void voidStops() {
        says("a STOP, if the WAY is not IN FORCE for FOOT in its YEAR by what was looked at ahead");
        ShireWays used = under(3, 1, 0, 30);
        used.walk(0, 0, CART, 4, 6);
        used.stop(0, 5, 28);
        due(used.good(2, NONE), 0);
        used.stop(0, 6, 28);
        due(used.good(3, NONE), 1);
        used.stop(0, 7, 28);
        due(used.good(4, NONE), 0);
        ShireWays written = under(3, 1, 0, 9);
        written.paper(0, FOOT, 8);
        written.stop(0, 0, 28);
        due(written.good(2, NONE), 0);
        written.paper(0, FOOT, 1);
        due(written.good(2, NONE), 1);
        due(written.good(2, 2), 0);
        ShireWays made = ways(1);
        made.make(0, FOOT, 10, 28);
        made.stop(0, 9, 28);
        made.stop(0, 10, 28);
        due(made.good(1, NONE), 0);
        due(made.good(2, NONE), 1);
        ShireWays again = under(1, 1, 0, 9);
        again.paper(0, FOOT, 9);
        again.walk(0, 0, FOOT, 11, 11);
        again.stop(0, 10, 28);
        again.stop(0, 11, 28);
        due(again.good(4, NONE), 1);
        again.stop(0, 12, 28);
        due(again.good(5, NONE), 0);
    }

    private static void voidMakes() {
        says("a MAKE, if it is IN FORCE for its KIND then by that");
        ShireWays used = under(3, 1, 0, 30);
        used.walk(0, 0, HORSE, 4, 6);
        used.make(0, HORSE, 6, 28);
        due(used.good(2, NONE), 0);
        used.make(0, HORSE, 5, 28);
        due(used.good(3, NONE), 1);
        due(used.good(2, NONE), 0);
        used.make(0, CART, 6, 28);
        due(used.good(4, NONE), 1);
        ShireWays written = under(3, 1, 0, 9);
        written.paper(0, HORSE, 9);
        written.make(0, FOOT, 0, 28);
        written.make(0, HORSE, 0, 28);
        due(written.good(2, NONE), 0);
        due(written.good(3, NONE), 0);
        written.make(0, CART, 0, 28);
        due(written.good(4, NONE), 1);
        ShireWays made = ways(1);
        made.make(0, HORSE, 10, 28);
        made.make(0, HORSE, 10, 28);
        made.make(0, FOOT, 100, 28);
        made.make(0, HORSE, 9, 28);
        due(made.good(0, NONE), 0);
        due(made.good(0, 2), 1);
        due(made.good(1, 2), 0);
        due(made.good(2, 2), 0);
        due(made.good(3, NONE), 1);
        ShireWays lesser = ways(1);
        lesser.make(0, CART, 10, 28);
        lesser.make(0, FOOT, 10, 28);
        due(lesser.good(1, NONE), 0);
        ShireWays greater = ways(1);
        greater.make(0, FOOT, 10, 28);
        greater.make(0, CART, 10, 28);
        due(greater.good(1, NONE), 1);
        due(greater.force(0, CART, 10, NONE), 3);
    }

    private static void noOrderUpToTheYear() {
        says("A WAY is IN FORCE for a KIND in a YEAR y: if no GOOD ORDER of it has a YEAR of y or below");
        ShireWays x = under(1, 1, 0, 9);
        x.paper(0, HORSE, 9);
        x.walk(0, 0, FOOT, 0, 0);
        x.stop(0, 50, 28);
        due(x.force(0, HORSE, 0, NONE), 2);
        due(x.force(0, HORSE, 49, NONE), 2);
        due(x.force(0, FOOT, 50, NONE), 0);
        due(x.force(0, FOOT, 51, NONE), 0);
        due(x.force(0, FOOT, 100, NONE), 0);
        ShireWays last = under(1, 1, 0, 9);
        last.paper(0, FOOT, 9);
        last.stop(0, 100, 28);
        due(last.force(0, FOOT, 99, NONE), 2);
        due(last.force(0, FOOT, 100, NONE), 0);
        ShireWays first = under(1, 1, 0, 9);
        first.paper(0, FOOT, 9);
        first.stop(0, 0, 28);
        due(first.force(0, FOOT, 0, NONE), 0);
        due(first.since(0, FOOT, NONE), NONE);
        ShireWays isVoid = under(1, 1, 0, 9);
        isVoid.paper(0, FOOT, 9);
        isVoid.stop(0, 0, 27);
        due(isVoid.force(0, FOOT, 0, NONE), 2);
    }

    private static void papersWeigh() {
        says("by PAPERS, if the WEIGHTS of those of the KIND or a greater one together are WEIGHT at least");
        for (int weight = 1; weight <= 30; weight++) {
            ShireWays x = under(40, 4, 0, weight);
            int sum = 0;
            for (int kind = 0; sum < weight - 1; kind = (kind + 1) % 3) {
                int more = Math.min(9, weight - 1 - sum);
                x.paper(0, kind, more);
                sum += more;
            }
            due(x.papers(0, FOOT, NONE), weight - 1, weight);
            due(x.force(0, FOOT, 0, NONE), 0, weight);
            x.paper(0, HORSE, 1);
            due(x.force(0, FOOT, 0, NONE), 2, weight);
            due(x.force(0, FOOT, 100, NONE), 2, weight);
            x.paper(0, FOOT, 1);
            due(x.force(0, FOOT, 0, NONE), 2, weight);
        }
        ShireWays x = under(40, 4, 0, 9);
        x.paper(0, CART, 3);
        x.paper(0, HORSE, 5);
        x.paper(0, FOOT, 1);
        due(x.force(0, FOOT, 0, NONE), 2);
        due(x.force(0, HORSE, 0, NONE), 0);
        x.paper(0, HORSE, 1);
        due(x.force(0, HORSE, 0, NONE), 2);
        due(x.force(0, CART, 0, NONE), 0);
    }

    private static void useFromTheEndOn() {
        says("or by USE, if a SPAN HOLDS that ends in y or ahead");
        ShireWays x = under(3, 1, 0, 30);
        x.walk(0, 0, FOOT, 40, 42);
        due(x.force(0, FOOT, 41, NONE), 0);
        due(x.force(0, FOOT, 42, NONE), 1);
        due(x.force(0, FOOT, 43, NONE), 1);
        due(x.force(0, FOOT, 100, NONE), 1);
        due(x.since(0, FOOT, NONE), 42);
        ShireWays early = under(1, 1, 0, 30);
        early.walk(0, 0, FOOT, 0, 0);
        due(early.force(0, FOOT, 0, NONE), 1);
        due(early.force(0, FOOT, 100, NONE), 1);
        due(early.since(0, FOOT, NONE), 0);
        ShireWays late = under(3, 1, 0, 30);
        late.walk(0, 0, FOOT, 98, 100);
        due(late.force(0, FOOT, 99, NONE), 0);
        due(late.force(0, FOOT, 100, NONE), 1);
        due(late.since(0, FOOT, NONE), 100);
    }

    private static void makeOfItsKind() {
        says("Else by the latest of these: by a MAKE, if the KIND is its own or a lesser one");
        for (int kind = FOOT; kind <= CART; kind++) {
            ShireWays x = ways(1);
            x.make(0, kind, 30, 28);
            for (int asked = FOOT; asked <= CART; asked++) {
                due(x.force(0, asked, 29, NONE), 0, kind, asked);
                due(x.force(0, asked, 30, NONE), asked <= kind ? 3 : 0, kind, asked);
                due(x.force(0, asked, 100, NONE), asked <= kind ? 3 : 0, kind, asked);
            }
        }
        ShireWays x = under(1, 1, 0, 9);
        x.paper(0, FOOT, 9);
        x.make(0, HORSE, 30, 28);
        x.make(0, CART, 60, 28);
        due(x.force(0, FOOT, 29, NONE), 2);
        due(x.force(0, FOOT, 30, NONE), 3);
        due(x.force(0, CART, 59, NONE), 0);
        due(x.force(0, CART, 60, NONE), 3);
        x.stop(0, 60, 28);
        due(x.force(0, FOOT, 60, NONE), 0);
        due(x.force(0, FOOT, 59, NONE), 3);
    }

    private static void useBehindTheOrder() {
        says("or by USE, if a SPAN HOLDS that ends in y or ahead and begins behind the ORDER's YEAR");
        for (int begin = 49; begin <= 51; begin++) {
            ShireWays x = under(5, 1, 0, 1);
            x.paper(0, FOOT, 1);
            x.stop(0, 50, 28);
            x.walk(0, 0, FOOT, begin, begin + 4);
            due(x.force(0, FOOT, begin + 3, NONE), begin + 3 < 50 ? 2 : 0, begin);
            due(x.force(0, FOOT, begin + 4, NONE), begin > 50 ? 1 : 0, begin);
            due(x.force(0, FOOT, 100, NONE), begin > 50 ? 1 : 0, begin);
            ShireWays y = under(5, 1, 0, 30);
            y.make(0, FOOT, 50, 28);
            y.walk(0, 0, CART, begin, begin + 4);
            due(y.force(0, CART, begin + 3, NONE), 0, begin);
            due(y.force(0, CART, begin + 4, NONE), begin > 50 ? 1 : 0, begin);
        }
        ShireWays atZero = under(1, 1, 0, 1);
        atZero.paper(0, FOOT, 1);
        atZero.walk(0, 0, FOOT, 0, 0);
        atZero.stop(0, 0, 28);
        due(atZero.force(0, FOOT, 0, NONE), 0);
        due(atZero.force(0, FOOT, 100, NONE), 0);
        atZero.walk(0, 0, FOOT, 1, 1);
        due(atZero.force(0, FOOT, 0, NONE), 0);
        due(atZero.force(0, FOOT, 1, NONE), 1);
        ShireWays atTheEnd = under(1, 1, 0, 1);
        atTheEnd.paper(0, FOOT, 1);
        atTheEnd.stop(0, 99, 28);
        atTheEnd.walk(0, 0, FOOT, 100, 100);
        due(atTheEnd.force(0, FOOT, 99, NONE), 0);
        due(atTheEnd.force(0, FOOT, 100, NONE), 1);
        ShireWays isVoid = under(5, 1, 0, 1);
        isVoid.walk(0, 0, FOOT, 49, 53);
        isVoid.stop(0, 50, 28);
        due(isVoid.force(0, FOOT, 53, NONE), 1);
    }

    private static void firstThatFits() {
        says("Told is the first that fits: 3 MAKE, 2 PAPERS, 1 USE; 0: it is not.");
        ShireWays x = under(1, 1, 0, 1);
        due(x.force(0, FOOT, 50, NONE), 0);
        x.make(0, FOOT, 50, 28);
        due(x.force(0, FOOT, 50, NONE), 3);
        x.walk(0, 0, FOOT, 51, 51);
        due(x.force(0, FOOT, 51, NONE), 3);
        due(x.force(0, FOOT, 50, NONE), 3);
        x.paper(0, HORSE, 1);
        due(x.force(0, HORSE, 49, NONE), 2);
        due(x.good(1, NONE), 0);
        due(x.force(0, FOOT, 51, NONE), 2);
        x.strike(3);
        due(x.force(0, FOOT, 51, NONE), 3);
        x.strike(1);
        due(x.force(0, FOOT, 51, NONE), 1);
        due(x.force(0, FOOT, 50, NONE), 0);
    }

    // ---- Terms 3

    private static void constants() {
        says("3 REFUSALS: UNKNOWN -1, BAD -2, STATE -3, FULL -4, CAST -13. NONE is -9.");
        int[] told = {UNKNOWN, BAD, STATE, FULL, CAST, NONE};
        int[] due = {-1, -2, -3, -4, -13, -9};
        for (int i = 0; i < due.length; i++) due(told[i], due[i], i);
    }

    private static void noneIsAPageAsOf() {
        says("UNKNOWN -1 (there is no such PAGE (NONE is one where a PAGE as of which is told))");
        ShireWays x = pages(1);
        for (int as : new int[] {NONE, 0}) {
            due(x.counts(0, as), 1, as);
            due(x.persons(0, 0, 0, as), 0, as);
            due(x.holds(0, 0, 0, as), 0, as);
            due(x.lacking(0, 0, 0, as), NONE, as);
            due(x.papers(0, 0, as), 0, as);
            due(x.force(0, 0, 0, as), 0, as);
            due(x.most(0, 0, as), NONE, as);
            due(x.since(0, 0, as), NONE, as);
            due(x.good(0, as), CAST, as);
            due(x.leans(0, 0, 0, 0, as), 0, as);
            due(x.lean(0, 0, 0, 0, as), NONE, as);
            due(x.steps(0, 0, 0, 0, as), 0, as);
            due(x.first(0, 0, 0, 0, as), NONE, as);
            due(x.reach(0, 0, 0, as), 1, as);
        }
        due(x.strike(NONE), UNKNOWN);
        due(x.page(NONE, 7, 0), UNKNOWN);
        due(x.counts(NONE, NONE), UNKNOWN);
        due(x.good(NONE, NONE), UNKNOWN);
        due(x.leans(NONE, 0, 0, 0, NONE), UNKNOWN);
        due(x.total(1), 1);
    }

    private static void refusedChangesNothing() {
        says("Of several what is told first. What is refused changes nothing.");
        ShireWays x = pages(100);
        due(x.strike(100), UNKNOWN);
        due(x.strike(0), FULL);
        due(x.counts(0, NONE), 1);
        due(x.total(2), 0);
        due(x.walk(20, 1, 3, 5, 4), UNKNOWN);
        due(x.walk(19, 0, 3, 5, 4), BAD);
        due(x.walk(19, 0, 2, 5, 4), BAD);
        due(x.walk(19, 0, 2, 4, 4), FULL);
        due(x.persons(0, 0, 4, NONE), 0);
        due(x.statute(41, 1, 0, 1), BAD);
        due(x.statute(1, 1, 0, 1), FULL);
        due(x.lacking(0, 0, 0, NONE), NONE);
        due(x.make(0, 3, 0, 28), BAD);
        due(x.make(0, 2, 0, 28), FULL);
        due(x.force(0, 0, 0, NONE), 0);
        due(x.total(3), 0);
        ShireWays ways = ways(12);
        due(ways.way(10, 10), UNKNOWN);
        due(ways.way(9, 9), STATE);
        due(ways.way(8, 9), FULL);
        due(ways.total(0), 12);
        ShireWays struck = pages(98);
        due(struck.strike(7), 98);
        due(struck.broke(0, 0), 99);
        due(struck.strike(98), STATE);
        due(struck.strike(7), STATE);
        due(struck.strike(8), FULL);
        due(struck.total(2), 1);
        due(struck.page(98, 8, 0), BAD);
        due(struck.page(98, 0, 12), BAD);
        due(struck.page(98, 0, 8), CAST);
        due(struck.page(100, 8, 12), UNKNOWN);
    }

    // ---- the promises

    private static void newObject() {
        says("Promise 1: No WAYS, an empty BOOK.");
        ShireWays x = new ShireWays();
        for (int what = 0; what <= 3; what++) due(x.total(what), 0, what);
        due(x.page(0, 7, 0), UNKNOWN);
        due(x.counts(0, NONE), UNKNOWN);
        due(x.papers(0, 0, NONE), UNKNOWN);
        due(x.strike(0), UNKNOWN);
        due(x.steps(0, 9, 2, 100, NONE), NONE);
        due(x.first(0, 9, 2, 100, NONE), NONE);
        due(x.reach(9, 2, 100, NONE), 1);
        due(x.walk(0, 0, 0, 0, 0), UNKNOWN);
        due(x.statute(1, 1, 0, 1), 0);
        due(x.way(0, 1), 0);
    }

    private static void walkYears() {
        says("Promise 3: BAD: kind, from is not 0 .. to, to above 100");
        int[][] taken = {{0, 0}, {0, 100}, {99, 100}, {100, 100}, {5, 5}, {4, 5}};
        int[][] bad = {{-1, 0}, {-1, -1}, {0, -1}, {1, 0}, {5, 4}, {100, 99}, {100, 101}, {101, 101}, {0, 101},
            {101, 100}, {LEAST, 0}, {LEAST, LEAST}, {0, LEAST}, {0, GREATEST}, {GREATEST, GREATEST},
            {LEAST, GREATEST}, {GREATEST, LEAST}, {NONE, 5}, {5, NONE}};
        ShireWays x = ways(1);
        for (int[] w : bad) due(x.walk(0, 0, 0, w[0], w[1]), BAD, w);
        for (int i = 0; i < taken.length; i++) due(x.walk(0, 0, 0, taken[i][0], taken[i][1]), i, taken[i]);
        for (int[] w : bad) due(x.walk(0, 0, 0, w[0], w[1]), BAD, w);
        for (int kind : new int[] {-1, 3, NONE, LEAST, GREATEST}) due(x.walk(0, 0, kind, 5, 5), BAD, kind);
        due(x.total(1), taken.length);
    }

    private static void pageTells() {
        says("Promise 10: A PAGE taken as of a SORT (0, 1, 2, 5, 6: just these; 3: an ORDER; 4; 7: any); NONE: it has"
                + " none such.");
        for (int page = 0; page <= 6; page++) {
            for (int as = 0; as <= 7; as++) {
                ShireWays x = oneOfEach();
                boolean taken = as == 7 || as == page || as == 3 && page == 4;
                for (int what = 0; what <= 11; what++) {
                    due(x.page(page, as, what), taken ? TOLD[page][what] : CAST, page, as, what);
                }
                for (int what : new int[] {-1, 12, NONE, LEAST, GREATEST}) due(x.page(page, as, what), BAD, page, as);
            }
            ShireWays x = oneOfEach();
            for (int as : new int[] {-1, 8, NONE, LEAST, GREATEST}) due(x.page(page, as, 0), BAD, page, as);
        }
        for (int page : new int[] {-1, 7, NONE, LEAST, GREATEST}) due(oneOfEach().page(page, 7, 0), UNKNOWN, page);
    }

    // What oneOfEach() tells, page by page: sort, way, kind, year, last year, witness, weight, days, struck, statute.
    private static final int[][] TOLD = {
        {0, 11, 2, 0, 100, 19, NONE, NONE, NONE, NONE, NONE, NONE},
        {1, 11, 2, NONE, NONE, NONE, 9, NONE, NONE, NONE, NONE, NONE},
        {2, 11, NONE, 100, NONE, NONE, NONE, NONE, NONE, NONE, NONE, NONE},
        {3, 0, NONE, 100, NONE, NONE, NONE, 365, NONE, NONE, NONE, NONE},
        {4, 11, 2, 100, NONE, NONE, NONE, 0, NONE, NONE, NONE, NONE},
        {5, NONE, NONE, NONE, NONE, NONE, NONE, NONE, 0, NONE, NONE, NONE},
        {6, NONE, NONE, NONE, NONE, NONE, 30, NONE, NONE, 40, 4, 5}};

    private static ShireWays oneOfEach() {
        ShireWays x = ways(12);
        x.walk(19, 11, 2, 0, 100);
        x.paper(11, 2, 9);
        x.broke(11, 100);
        x.stop(0, 100, 365);
        x.make(11, 2, 100, 0);
        x.strike(0);
        x.statute(40, 4, 5, 30);
        return x;
    }

    private static void counts() {
        says("Promise 11: Whether a PAGE counts as of another one: 1, 0 (0: it is behind that).");
        ShireWays x = pages(3);
        for (int page = 0; page < 3; page++) {
            for (int as = 0; as < 3; as++) due(x.counts(page, as), page <= as ? 1 : 0, page, as);
            due(x.counts(page, NONE), 1, page);
        }
        x.strike(1);
        due(x.counts(3, 3), 1);
        due(x.counts(3, 2), 0);
        due(x.counts(1, 2), 1);
        due(x.counts(1, 3), 0);
    }

    private static void lackingNone() {
        says("Promise 14: In how many YEARS of the SPAN there are too few PERSONS; NONE: it would begin ahead of YEAR 0.");
        for (int end = 0; end <= 100; end++) {
            ShireWays x = under(30, 1, 0, 1);
            x.walk(0, 0, 0, 50, 100);
            int due = end < 29 ? NONE : Math.max(0, Math.min(30, 50 - (end - 29)));
            due(x.lacking(0, 0, end, NONE), due, end);
            due(x.holds(0, 0, end, NONE), due == 0 ? 1 : 0, end);
            due(x.lacking(0, 1, end, NONE), end < 29 ? NONE : 30, end);
        }
    }

    private static void most() {
        says("Promise 17: The greatest KIND for which it is; NONE.");
        ShireWays x = under(1, 1, 0, 9);
        due(x.most(0, 0, NONE), NONE);
        x.paper(0, FOOT, 9);
        due(x.most(0, 0, NONE), FOOT);
        x.walk(0, 0, HORSE, 0, 0);
        due(x.most(0, 0, NONE), HORSE);
        x.make(0, CART, 0, 28);
        due(x.most(0, 0, NONE), CART);
        x.stop(0, 0, 28);
        due(x.most(0, 0, NONE), NONE);
        due(x.most(0, 100, NONE), NONE);
        ShireWays cartAlone = under(1, 1, 0, 9);
        cartAlone.make(0, FOOT, 10, 28);
        cartAlone.walk(0, 0, CART, 11, 11);
        due(cartAlone.most(0, 10, NONE), FOOT);
        due(cartAlone.most(0, 11, NONE), CART);
    }

    private static void since() {
        says("Promise 18: The least YEAR in which a WAY is IN FORCE for a KIND; NONE.");
        for (int year = 0; year <= 100; year++) {
            ShireWays x = ways(1);
            x.make(0, HORSE, year, 28);
            due(x.since(0, FOOT, NONE), year, year);
            due(x.since(0, HORSE, NONE), year, year);
            due(x.since(0, CART, NONE), NONE, year);
            x.stop(0, year, 28);
            due(x.since(0, FOOT, NONE), NONE, year);
            due(x.since(0, FOOT, 0), year, year);
        }
    }

    private static void good() {
        says("Promise 19: Whether an ORDER is GOOD as of a PAGE: 1, 0 (also if it does not count). CAST: the PAGE is no"
                + " ORDER.");
        for (int sort = 0; sort <= 6; sort++) {
            ShireWays x = pages(1);
            addAny(x, sort);
            due(x.good(1, NONE), sort == 3 || sort == 4 ? 0 : CAST, sort);
            due(x.good(1, 0), sort == 3 || sort == 4 ? 0 : CAST, sort);
            due(x.good(1, 2), UNKNOWN, sort);
            due(x.good(2, 0), UNKNOWN, sort);
        }
        ShireWays x = pages(1);
        x.make(0, 0, 0, 28);
        x.broke(0, 0);
        x.strike(1);
        due(x.good(1, 0), 0);
        due(x.good(1, 1), 1);
        due(x.good(1, 2), 1);
        due(x.good(1, 3), 0);
        due(x.good(1, NONE), 0);
    }

    private static void leansOfWhatCounts() {
        says("Promise 20: if a PAGE that counts did not (if it is a STRIKE, what it has STRUCK counts then): 1, 0 (0: it"
                + " does not count).");
        ShireWays x = under(1, 1, 0, 9);
        x.paper(0, 0, 9);
        x.strike(1);
        x.broke(0, 0);
        due(x.leans(1, 0, 0, 0, 0), 0);
        due(x.leans(1, 0, 0, 0, 1), 1);
        due(x.leans(1, 0, 0, 0, 2), 0);
        due(x.leans(2, 0, 0, 0, 1), 0);
        due(x.leans(2, 0, 0, 0, 2), 1);
        due(x.leans(2, 0, 0, 0, NONE), 1);
        due(x.leans(3, 0, 0, 0, NONE), 0);
        due(x.leans(0, 0, 0, 0, 1), 1);
        due(x.leans(0, 0, 0, 0, 0), 0);
        due(x.leans(4, 0, 0, 0, NONE), UNKNOWN);
        ShireWays statutes = ways(1);
        statutes.paper(0, 0, 9);
        statutes.statute(1, 1, 0, 10);
        statutes.statute(1, 1, 0, 9);
        statutes.strike(2);
        due(statutes.leans(2, 0, 0, 0, 2), 1);
        due(statutes.leans(1, 0, 0, 0, 2), 0);
        due(statutes.leans(3, 0, 0, 0, NONE), 1);
        due(statutes.leans(1, 0, 0, 0, NONE), 0);
    }

    private static void leanToTheLast() {
        says("Promise 21: The i-th of all PAGES on which it leans so; NONE.");
        ShireWays x = under(24, 4, 0, 30);
        for (int page = 1; page <= 96; page++) x.walk(page % 4, 0, 0, 10 + (page - 1) / 4, 10 + (page - 1) / 4);
        x.broke(0, 20);
        x.strike(97);
        x.broke(0, 9);
        due(x.force(0, 0, 33, NONE), 1);
        for (int i = 0; i <= 95; i++) due(x.lean(i, 0, 0, 33, NONE), i + 1, i);
        due(x.lean(96, 0, 0, 33, NONE), 98);
        for (int i : new int[] {97, 98, 99, 100, GREATEST, -1, NONE, LEAST}) due(x.lean(i, 0, 0, 33, NONE), NONE, i);
        due(x.lean(95, 0, 0, 33, 96), 96);
        due(x.lean(96, 0, 0, 33, 96), NONE);
        due(x.lean(0, 0, 0, 33, 97), 97);
        due(x.lean(1, 0, 0, 33, 97), NONE);
        // Without its statute the way is in force by the 20 years that are needed ahead of any.
        due(x.lean(0, 0, 0, 33, 95), 0);
        due(x.lean(1, 0, 0, 33, 95), NONE);
        due(x.lean(0, 0, 0, 32, NONE), 0);
        due(x.lean(1, 0, 0, 32, NONE), NONE);
        ShireWays last = pages(99);
        last.make(0, 0, 100, 28);
        due(last.lean(0, 0, 0, 100, NONE), 99);
        due(last.lean(1, 0, 0, 100, NONE), NONE);
        due(last.lean(0, 0, 0, 99, NONE), NONE);
        due(last.lean(0, 0, 0, 100, 98), NONE);
    }

    private static void fewestWays() {
        says("Promises 22, 23, 24: 0: it is that; NONE: there is no row of such; NONE: no WAY is needed; itself, too");
        ShireWays x = ways(9);
        for (int way = 0; way < 9; way++) x.make(way, 0, 0, 28);
        for (int from = 0; from <= 9; from++) {
            for (int to = 0; to <= 9; to++) {
                due(x.steps(from, to, 0, 0, NONE), Math.abs(to - from), from, to);
                due(x.first(from, to, 0, 0, NONE), to == from ? NONE : to > from ? from : from - 1, from, to);
            }
            due(x.reach(from, 0, 0, NONE), 10, from);
            due(x.reach(from, 1, 0, NONE), 1, from);
            due(x.reach(from, 0, 0, 0), from <= 1 ? 2 : 1, from);
        }
        x.stop(4, 1, 28);
        due(x.steps(0, 9, 0, 1, NONE), NONE);
        due(x.first(0, 9, 0, 1, NONE), NONE);
        due(x.first(9, 0, 0, 1, NONE), NONE);
        due(x.steps(0, 4, 0, 1, NONE), 4);
        due(x.reach(4, 0, 1, NONE), 5);
        due(x.reach(5, 0, 1, NONE), 5);
        due(x.steps(0, 9, 0, 0, NONE), 9);
        x.way(0, 9);
        x.way(9, 0);
        x.way(4, 5);
        x.make(11, 0, 2, 28);
        due(x.first(4, 5, 0, 2, NONE), 11);
        due(x.first(4, 5, 0, 0, NONE), 4);
        x.make(10, 0, 2, 28);
        x.make(9, 0, 2, 28);
        due(x.first(0, 9, 0, 2, NONE), 9);
        due(x.first(0, 9, 0, 2, 11), 10);
        due(x.first(9, 0, 0, 2, NONE), 9);
        due(x.first(9, 0, 0, 1, NONE), NONE);
        due(x.steps(9, 0, 0, 1, NONE), NONE);
        due(x.first(4, 9, 0, 2, NONE), 3);
        due(x.steps(4, 9, 0, 2, NONE), 5);
        due(x.first(9, 4, 0, 2, NONE), 8);
        due(x.first(9, 3, 0, 2, NONE), 9);
    }

    private static void totals() {
        says("Promise 25: 0 WAYS, 1 PAGES, 2 PAGES that are STRUCK, 3 ORDERS that are GOOD (of all PAGES). BAD.");
        ShireWays x = ways(12);
        for (int order = 0; order < 20; order++) x.make(order % 12, order / 12, order / 12, 28);
        for (int page = 20; page < 60; page++) x.broke(page % 12, 0);
        int[] full = {12, 60, 0, 20};
        for (int what = 0; what <= 3; what++) due(x.total(what), full[what], what);
        for (int page = 20; page < 60; page++) x.strike(page);
        int[] struck = {12, 100, 40, 20};
        for (int what = 0; what <= 3; what++) due(x.total(what), struck[what], what);
        for (int what : new int[] {-1, 4, NONE, LEAST, GREATEST}) due(x.total(what), BAD, what);
        ShireWays half = pages(50);
        for (int page = 0; page < 50; page++) half.strike(page);
        due(half.total(2), 50);
        due(half.total(3), 0);
        ShireWays orders = ways(1);
        orders.make(0, 0, 0, 28);
        orders.stop(0, 1, 28);
        due(orders.total(3), 2);
        orders.strike(0);
        due(orders.total(3), 0);
        due(orders.total(2), 1);
    }

    private static void terms1() {
        places();
        twelveWays();
        bothWays();
        years();
        kinds();
        hundredPages();
        twentyWitnesses();
        eachYear();
        paperWeights();
        breaksOfOneYear();
        twentyOrders();
        days();
        strikes();
        countsNotFromTheStrikeOn();
        statuteBounds();
        statutesAtTheirEnds();
        firstStatute();
        asOfAPage();
        latestStatute();
        noPagesAtAll();
        noneIsAllPages();
    }

    private static void terms2() {
        spanYears();
        noBreakInIt();
        gaps();
        personsCountOnce();
        orderOfOrders();
        leastNotice();
        voidStops();
        voidMakes();
        noOrderUpToTheYear();
        papersWeigh();
        useFromTheEndOn();
        makeOfItsKind();
        useBehindTheOrder();
        firstThatFits();
    }

    private static void terms3AndPromises() {
        constants();
        noneIsAPageAsOf();
        refusedChangesNothing();
        newObject();
        walkYears();
        pageTells();
        counts();
        lackingNone();
        most();
        since();
        good();
        leansOfWhatCounts();
        leanToTheLast();
        fewestWays();
        totals();
    }

    public static void main(String[] args) {
        terms1();
        terms2();
        terms3AndPromises();
        System.out.println(sentences + " sentences, " + calls + " calls, " + wrong + " not as due");
        if (wrong != 0) System.exit(1);
    }
}
