/** Runs of calls, the same at every time, answered by ShireWays and by PlainShire. */
public final class AgainstPlainTest {
    private static final int RUNS = 840;
    private static final int MOST_WRONG = 20;

    // The years at and beside the ends of what years and spans there are.
    private static final int[] EDGES = {0, 1, 2, 19, 20, 38, 39, 40, 41, 60, 98, 99, 100};
    private static final int[] EDGES_OF_DAYS = {0, 27, 28, 28, 29, 364, 365};

    // A run has its own ranges, so that walks, orders and papers meet on few ways and in few years.
    private static final class Run {
        final ShireWays x = new ShireWays();
        final PlainShire plain = new PlainShire();
        final int number;
        final int ways, years, witnesses, wrongOneIn, style;
        private long state;

        Run(int number) {
            this.number = number;
            state = number * 7919L + 13;
            style = number % 7;
            ways = style == 0 ? 12 : style == 6 ? 1 + next(2) : 1 + next(4);
            years = style == 1 ? 101 : 8 + next(40);
            witnesses = 2 + next(19);
            wrongOneIn = style == 2 ? 6 : 60;
        }

        int next(int bound) {
            state = state * 6364136223846793005L + 1442695040888963407L;
            return (int) Math.floorMod(state >>> 33, (long) bound);
        }

        boolean isWrong() {
            return next(wrongOneIn) == 0;
        }

        int wrong() {
            int[] odd = {-1, -9, -2, 3, 10, 12, 20, 100, 101, 366, 1000, Integer.MAX_VALUE, Integer.MIN_VALUE};
            return odd[next(odd.length)];
        }

        int within(int least, int most) {
            return isWrong() ? wrong() : least + next(most - least + 1);
        }

        int place() {
            return within(0, style == 0 ? 9 : 5);
        }

        int way() {
            return within(0, ways - 1);
        }

        int kind() {
            return within(0, 2);
        }

        int year() {
            return style == 6 && !isWrong() ? EDGES[next(EDGES.length)] : within(0, years - 1);
        }

        int lastYear(int from) {
            if (isWrong()) return wrong();
            return style == 6 ? Math.max(from, year()) : Math.min(from + next(30), 100);
        }

        /** A number of a statute, which stands at one of its ends where runs look at edges. */
        int statuteNumber(int least, int most) {
            return style == 6 && !isWrong() ? next(2) == 0 ? least : most : within(least, most);
        }

        int page() {
            return within(0, Math.max(0, plain.book.size() - 1));
        }

        int as() {
            return next(3) > 0 ? -9 : page();
        }

        int days() {
            if (style == 6) return EDGES_OF_DAYS[next(EDGES_OF_DAYS.length)];
            return next(5) == 0 ? next(28) : next(20) == 0 ? 28 : within(28, 365);
        }
    }

    private static int wrong = 0;
    private static long calls = 0;

    private static void same(Run r, String call, int got, int want, int... given) {
        calls++;
        if (got == want) return;
        wrong++;
        if (wrong > MOST_WRONG) return;
        StringBuilder text = new StringBuilder("run " + r.number + ": " + call + "(");
        for (int i = 0; i < given.length; i++) text.append(i == 0 ? "" : ", ").append(given[i]);
        System.out.println(text + ") answered " + got + ", the plain one " + want);
    }

    private static void addWay(Run r) {
        int a = r.place(), b = r.place();
        same(r, "way", r.x.way(a, b), r.plain.way(a, b), a, b);
    }

    private static void addPage(Run r) {
        int pick = r.next(r.style == 3 ? 15 : 12);
        int w = r.way(), k = r.kind(), y = r.year();
        if (pick < 5) {
            int who = r.within(0, r.witnesses - 1), to = r.lastYear(y);
            same(r, "walk", r.x.walk(who, w, k, y, to), r.plain.walk(who, w, k, y, to), who, w, k, y, to);
        } else if (pick == 5) {
            int weight = r.within(1, 9);
            same(r, "paper", r.x.paper(w, k, weight), r.plain.paper(w, k, weight), w, k, weight);
        } else if (pick == 6) {
            same(r, "broke", r.x.broke(w, y), r.plain.broke(w, y), w, y);
        } else if (pick == 7 || pick == 12) {
            int days = r.days();
            same(r, "stop", r.x.stop(w, y, days), r.plain.stop(w, y, days), w, y, days);
        } else if (pick == 8 || pick == 13) {
            int days = r.days();
            same(r, "make", r.x.make(w, k, y, days), r.plain.make(w, k, y, days), w, k, y, days);
        } else if (pick == 9 || pick == 14) {
            int page = r.page();
            same(r, "strike", r.x.strike(page), r.plain.strike(page), page);
        } else if (pick == 10) {
            addStatute(r);
        } else {
            addWay(r);
        }
    }

    private static void addStatute(Run r) {
        int n = r.next(3) == 0 ? r.statuteNumber(1, 40) : r.within(1, 8), p = r.statuteNumber(1, 4);
        int g = r.statuteNumber(0, r.next(2) * 5), w = r.statuteNumber(1, 30);
        same(r, "statute", r.x.statute(n, p, g, w), r.plain.statute(n, p, g, w), n, p, g, w);
    }

    private static void askBook(Run r) {
        int p = r.page(), as = r.as(), sort = r.within(0, 7), what = r.within(0, 11), sum = r.within(0, 3);
        same(r, "page", r.x.page(p, sort, what), r.plain.page(p, sort, what), p, sort, what);
        same(r, "page", r.x.page(p, 7, what), r.plain.page(p, 7, what), p, 7, what);
        same(r, "counts", r.x.counts(p, as), r.plain.counts(p, as), p, as);
        same(r, "good", r.x.good(p, as), r.plain.good(p, as), p, as);
        same(r, "total", r.x.total(sum), r.plain.total(sum), sum);
    }

    private static void askWay(Run r) {
        int w = r.way(), k = r.kind(), y = r.year(), as = r.as();
        same(r, "persons", r.x.persons(w, k, y, as), r.plain.persons(w, k, y, as), w, k, y, as);
        same(r, "holds", r.x.holds(w, k, y, as), r.plain.holds(w, k, y, as), w, k, y, as);
        same(r, "lacking", r.x.lacking(w, k, y, as), r.plain.lacking(w, k, y, as), w, k, y, as);
        same(r, "papers", r.x.papers(w, k, as), r.plain.papers(w, k, as), w, k, as);
        same(r, "force", r.x.force(w, k, y, as), r.plain.force(w, k, y, as), w, k, y, as);
        same(r, "most", r.x.most(w, y, as), r.plain.most(w, y, as), w, y, as);
        same(r, "since", r.x.since(w, k, as), r.plain.since(w, k, as), w, k, as);
    }

    private static void askLean(Run r) {
        int w = r.way(), k = r.kind(), y = r.year(), as = r.as(), p = r.page(), i = r.within(-1, 2);
        same(r, "leans", r.x.leans(p, w, k, y, as), r.plain.leans(p, w, k, y, as), p, w, k, y, as);
        same(r, "lean", r.x.lean(i, w, k, y, as), r.plain.lean(i, w, k, y, as), i, w, k, y, as);
        same(r, "lean", r.x.lean(0, w, k, y, as), r.plain.lean(0, w, k, y, as), 0, w, k, y, as);
    }

    private static void askRoads(Run r) {
        int a = r.place(), b = r.place(), k = r.next(2) == 0 ? 0 : r.kind(), y = r.year(), as = r.as();
        same(r, "steps", r.x.steps(a, b, k, y, as), r.plain.steps(a, b, k, y, as), a, b, k, y, as);
        same(r, "first", r.x.first(a, b, k, y, as), r.plain.first(a, b, k, y, as), a, b, k, y, as);
        same(r, "reach", r.x.reach(a, k, y, as), r.plain.reach(a, k, y, as), a, k, y, as);
    }

    private static void go(Run r) {
        for (int i = 0; i < r.ways; i++) addWay(r);
        if (r.style != 5) addStatute(r);
        if (r.style == 0) {
            for (int w = 0; w < r.ways; w++) {
                int y = r.next(20), k = r.next(3);
                same(r, "make", r.x.make(w, k, y, 30), r.plain.make(w, k, y, 30), w, k, y, 30);
            }
        }
        int pages = r.style == 4 ? 130 : 20 + r.next(50);
        for (int i = 0; i < pages; i++) {
            addPage(r);
            int ask = r.next(r.style == 4 ? 20 : 6);
            if (ask == 0) askBook(r);
            if (ask == 1) askWay(r);
            if (ask == 2) askLean(r);
            if (ask == 3) askRoads(r);
        }
    }

    public static void main(String[] args) {
        for (int run = 0; run < RUNS; run++) go(new Run(run));
        System.out.println(calls + " calls, " + wrong + " answered unlike the plain one");
        if (wrong != 0) System.exit(1);
    }
}
