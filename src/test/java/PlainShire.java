import java.util.ArrayList;
import java.util.Comparator;
import java.util.HashSet;
import java.util.List;
import java.util.Set;
import java.util.TreeSet;

/**
 * The document once more, in its plainest and slowest form and by other means than ShireWays: every answer is worked
 * out anew from the list of the pages. AgainstPlainTest holds the program against it.
 */
final class PlainShire {
    static final int UNKNOWN = -1, BAD = -2, STATE = -3, FULL = -4, NONE = -9, CAST = -13;

    /** A page; what it does not tell is NONE. */
    static final class Page {
        int sort, way = NONE, kind = NONE, year = NONE, last = NONE, witness = NONE, weight = NONE, days = NONE;
        int strikes = NONE, needs = NONE, persons = NONE, gaps = NONE;
        int number;
    }

    final List<int[]> ways = new ArrayList<>();
    final List<Page> book = new ArrayList<>();

    // ---- ways, the book

    int way(int a, int b) {
        if (a < 0 || a > 9 || b < 0 || b > 9) return UNKNOWN;
        if (a == b) return STATE;
        if (ways.size() == 12) return FULL;
        ways.add(new int[] {a, b});
        return ways.size() - 1;
    }

    private boolean noWay(int way) {
        return way < 0 || way >= ways.size();
    }

    private boolean noPage(int page) {
        return page < 0 || page >= book.size();
    }

    private boolean noAs(int as) {
        return as != NONE && noPage(as);
    }

    private static boolean out(int x, int least, int most) {
        return x < least || x > most;
    }

    private int add(Page page) {
        if (book.size() == 100) return FULL;
        page.number = book.size();
        book.add(page);
        return page.number;
    }

    private boolean ordersAreFull() {
        return book.stream().filter(p -> p.sort == 3 || p.sort == 4).count() == 20;
    }

    int walk(int witness, int way, int kind, int from, int to) {
        if (out(witness, 0, 19) || noWay(way)) return UNKNOWN;
        if (out(kind, 0, 2) || from < 0 || from > to || to > 100) return BAD;
        Page p = new Page();
        p.sort = 0;
        p.witness = witness;
        p.way = way;
        p.kind = kind;
        p.year = from;
        p.last = to;
        return add(p);
    }

    int paper(int way, int kind, int weight) {
        if (noWay(way)) return UNKNOWN;
        if (out(kind, 0, 2) || out(weight, 1, 9)) return BAD;
        Page p = new Page();
        p.sort = 1;
        p.way = way;
        p.kind = kind;
        p.weight = weight;
        return add(p);
    }

    int broke(int way, int year) {
        if (noWay(way)) return UNKNOWN;
        if (out(year, 0, 100)) return BAD;
        Page p = new Page();
        p.sort = 2;
        p.way = way;
        p.year = year;
        return add(p);
    }

    int stop(int way, int year, int days) {
        if (noWay(way)) return UNKNOWN;
        if (out(year, 0, 100) || out(days, 0, 365)) return BAD;
        if (ordersAreFull()) return FULL;
        Page p = new Page();
        p.sort = 3;
        p.way = way;
        p.year = year;
        p.days = days;
        return add(p);
    }

    int make(int way, int kind, int year, int days) {
        if (noWay(way)) return UNKNOWN;
        if (out(kind, 0, 2) || out(year, 0, 100) || out(days, 0, 365)) return BAD;
        if (ordersAreFull()) return FULL;
        Page p = new Page();
        p.sort = 4;
        p.way = way;
        p.kind = kind;
        p.year = year;
        p.days = days;
        return add(p);
    }

    int strike(int page) {
        if (noPage(page)) return UNKNOWN;
        if (book.get(page).sort == 5) return STATE;
        for (Page p : book) if (p.strikes == page) return STATE;
        Page p = new Page();
        p.sort = 5;
        p.strikes = page;
        return add(p);
    }

    int statute(int needs, int persons, int gaps, int weight) {
        if (out(needs, 1, 40) || out(persons, 1, 4) || out(gaps, 0, 5) || out(weight, 1, 30)) return BAD;
        Page p = new Page();
        p.sort = 6;
        p.needs = needs;
        p.persons = persons;
        p.gaps = gaps;
        p.weight = weight;
        return add(p);
    }

    int page(int page, int sort, int what) {
        if (noPage(page)) return UNKNOWN;
        if (out(sort, 0, 7) || out(what, 0, 11)) return BAD;
        Page p = book.get(page);
        boolean fits = sort == 7 || sort == p.sort || sort == 3 && p.sort == 4;
        if (!fits) return CAST;
        int[] told = {p.sort, p.way, p.kind, p.year, p.last, p.witness, p.weight, p.days, p.strikes, p.needs,
            p.persons, p.gaps};
        return told[what];
    }

    int counts(int page, int as) {
        if (noPage(page) || noAs(as)) return UNKNOWN;
        return counting(as, NONE).contains(book.get(page)) ? 1 : 0;
    }

    // ---- what is in force

    /** The pages that count as of one, if one of them (or NONE) did not. */
    private List<Page> counting(int as, int without) {
        List<Page> seen = new ArrayList<>();
        for (Page p : book) if ((as == NONE || p.number <= as) && p.number != without) seen.add(p);
        Set<Integer> struck = new TreeSet<>();
        for (Page p : seen) if (p.sort == 5) struck.add(p.strikes);
        seen.removeIf(p -> struck.contains(p.number));
        return seen;
    }

    private static Page law(List<Page> pages) {
        Page law = new Page();
        law.needs = 20;
        law.persons = 2;
        law.gaps = 1;
        law.weight = 10;
        for (Page p : pages) if (p.sort == 6) law = p;
        return law;
    }

    private static int personsIn(List<Page> pages, int way, int kind, int year) {
        Set<Integer> who = new HashSet<>();
        for (Page p : pages) {
            if (p.sort == 0 && p.way == way && p.kind >= kind && p.year <= year && year <= p.last) who.add(p.witness);
        }
        return who.size();
    }

    private static int fewIn(List<Page> pages, int way, int kind, int end) {
        Page law = law(pages);
        if (end - law.needs + 1 < 0) return NONE;
        int few = 0;
        for (int y = end - law.needs + 1; y <= end; y++) if (personsIn(pages, way, kind, y) < law.persons) few++;
        return few;
    }

    private static boolean spanHolds(List<Page> pages, int way, int kind, int end) {
        Page law = law(pages);
        int few = fewIn(pages, way, kind, end);
        if (few == NONE || few > law.gaps) return false;
        for (Page p : pages) {
            if (p.sort == 2 && p.way == way && p.year <= end && p.year > end - law.needs) return false;
        }
        return true;
    }

    private static int weightOf(List<Page> pages, int way, int kind) {
        return pages.stream().filter(p -> p.sort == 1 && p.way == way && p.kind >= kind).mapToInt(p -> p.weight).sum();
    }

    private static int forceBy(List<Page> pages, List<Page> goods, int way, int kind, int year) {
        Page law = law(pages);
        Page latest = null;
        for (Page p : goods) if (p.year <= year) latest = p;
        if (latest != null && latest.sort == 4 && kind <= latest.kind) return 3;
        if (latest == null && weightOf(pages, way, kind) >= law.weight) return 2;
        for (int end = 0; end <= year; end++) {
            if (latest != null && end - law.needs + 1 <= latest.year) continue;
            if (spanHolds(pages, way, kind, end)) return 1;
        }
        return 0;
    }

    private static List<Page> goods(List<Page> pages, int way) {
        List<Page> orders = new ArrayList<>();
        for (Page p : pages) if (p.way == way && (p.sort == 3 || p.sort == 4)) orders.add(p);
        orders.sort(Comparator.<Page>comparingInt(p -> p.year).thenComparingInt(p -> p.number));
        List<Page> goods = new ArrayList<>();
        for (Page p : orders) {
            if (p.days < 28) continue;
            if (p.sort == 3 && forceBy(pages, goods, way, 0, p.year) == 0) continue;
            if (p.sort == 4 && forceBy(pages, goods, way, p.kind, p.year) != 0) continue;
            goods.add(p);
        }
        return goods;
    }

    private static int forceOf(List<Page> pages, int way, int kind, int year) {
        return forceBy(pages, goods(pages, way), way, kind, year);
    }

    private int refusal(int way, int kind, int year, int as) {
        if (noWay(way) || noAs(as)) return UNKNOWN;
        return out(kind, 0, 2) || out(year, 0, 100) ? BAD : 0;
    }

    int persons(int way, int kind, int year, int as) {
        int no = refusal(way, kind, year, as);
        return no != 0 ? no : personsIn(counting(as, NONE), way, kind, year);
    }

    int holds(int way, int kind, int end, int as) {
        int no = refusal(way, kind, end, as);
        return no != 0 ? no : spanHolds(counting(as, NONE), way, kind, end) ? 1 : 0;
    }

    int lacking(int way, int kind, int end, int as) {
        int no = refusal(way, kind, end, as);
        return no != 0 ? no : fewIn(counting(as, NONE), way, kind, end);
    }

    int papers(int way, int kind, int as) {
        int no = refusal(way, kind, 0, as);
        return no != 0 ? no : weightOf(counting(as, NONE), way, kind);
    }

    int force(int way, int kind, int year, int as) {
        int no = refusal(way, kind, year, as);
        return no != 0 ? no : forceOf(counting(as, NONE), way, kind, year);
    }

    int most(int way, int year, int as) {
        int no = refusal(way, 0, year, as);
        if (no != 0) return no;
        int most = NONE;
        for (int kind = 0; kind <= 2; kind++) if (force(way, kind, year, as) > 0) most = kind;
        return most;
    }

    int since(int way, int kind, int as) {
        int no = refusal(way, kind, 0, as);
        if (no != 0) return no;
        List<Page> pages = counting(as, NONE);
        List<Page> goods = goods(pages, way);
        for (int year = 0; year <= 100; year++) if (forceBy(pages, goods, way, kind, year) > 0) return year;
        return NONE;
    }

    int good(int page, int as) {
        if (noPage(page) || noAs(as)) return UNKNOWN;
        Page p = book.get(page);
        if (p.sort != 3 && p.sort != 4) return CAST;
        return goods(counting(as, NONE), p.way).contains(p) ? 1 : 0;
    }

    int leans(int page, int way, int kind, int year, int as) {
        if (noPage(page)) return UNKNOWN;
        int no = refusal(way, kind, year, as);
        if (no != 0) return no;
        if (counts(page, as) == 0) return 0;
        return forceOf(counting(as, NONE), way, kind, year) != forceOf(counting(as, page), way, kind, year) ? 1 : 0;
    }

    int lean(int i, int way, int kind, int year, int as) {
        int no = refusal(way, kind, year, as);
        if (no != 0) return no;
        int found = 0;
        for (int page = 0; page < book.size(); page++) {
            if (leans(page, way, kind, year, as) == 1 && found++ == i) return page;
        }
        return NONE;
    }

    // ---- from here to there

    /** The fewest ways by at most so many steps, by trying every row of them. */
    private int fewest(boolean[] open, int from, int to, int left) {
        if (from == to) return 0;
        if (left == 0) return 99;
        int best = 99;
        for (int w = 0; w < ways.size(); w++) {
            int[] ends = ways.get(w);
            if (!open[w] || ends[0] != from && ends[1] != from) continue;
            boolean[] rest = open.clone();
            rest[w] = false;
            best = Math.min(best, 1 + fewest(rest, ends[0] + ends[1] - from, to, left - 1));
        }
        return best;
    }

    private boolean[] open(int kind, int year, int as) {
        boolean[] open = new boolean[ways.size()];
        for (int w = 0; w < open.length; w++) open[w] = force(w, kind, year, as) > 0;
        return open;
    }

    private int refusalTo(int a, int b, int kind, int year, int as) {
        if (out(a, 0, 9) || out(b, 0, 9) || noAs(as)) return UNKNOWN;
        return out(kind, 0, 2) || out(year, 0, 100) ? BAD : 0;
    }

    int steps(int from, int to, int kind, int year, int as) {
        int no = refusalTo(from, to, kind, year, as);
        if (no != 0) return no;
        int few = fewest(open(kind, year, as), from, to, 9);
        return few >= 99 ? NONE : few;
    }

    int first(int from, int to, int kind, int year, int as) {
        int no = refusalTo(from, to, kind, year, as);
        if (no != 0) return no;
        boolean[] open = open(kind, year, as);
        int few = fewest(open, from, to, 9);
        if (few == 0 || few >= 99) return NONE;
        for (int w = 0; w < open.length; w++) {
            int[] ends = ways.get(w);
            if (!open[w] || ends[0] != from && ends[1] != from) continue;
            boolean[] rest = open.clone();
            rest[w] = false;
            if (1 + fewest(rest, ends[0] + ends[1] - from, to, 9) == few) return w;
        }
        return NONE;
    }

    int reach(int from, int kind, int year, int as) {
        int no = refusalTo(from, from, kind, year, as);
        if (no != 0) return no;
        boolean[] open = open(kind, year, as);
        int sum = 0;
        for (int to = 0; to <= 9; to++) if (fewest(open, from, to, 9) < 99) sum++;
        return sum;
    }

    int total(int what) {
        if (what == 0) return ways.size();
        if (what == 1) return book.size();
        if (what == 2) return (int) book.stream().filter(p -> p.sort == 5).count();
        if (what != 3) return BAD;
        int sum = 0;
        for (int w = 0; w < ways.size(); w++) sum += goods(counting(NONE, NONE), w).size();
        return sum;
    }
}
