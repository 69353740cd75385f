import java.util.ArrayList;
import java.util.Arrays;
import java.util.List;
import java.util.TreeSet;
import java.util.function.Consumer;

/**
 * What each call refuses. Every argument stands at both ends of what is taken, one beyond each, at NONE and at the
 * least and the greatest int, each with each of the others: so every refusal alone, and of several the one that is
 * told first. Behind a refused call all answers are what they would be without it.
 */
public final class RefusalsTest {
    private static final int NONE = ShireWays.NONE, UNKNOWN = ShireWays.UNKNOWN, BAD = ShireWays.BAD;
    private static final int STATE = ShireWays.STATE, FULL = ShireWays.FULL, CAST = ShireWays.CAST;
    private static final int LEAST = Integer.MIN_VALUE, GREATEST = Integer.MAX_VALUE;

    // The document promises answers for 512 calls of an object; of these some make the shire.
    private static final int MOST_CALLS = 380;

    private interface Call {
        int answer(ShireWays x, int[] a);
    }

    /** What is told of arguments that each alone would be taken: 0 if nothing is refused. */
    private interface Rest {
        int refusal(Shire s, int[] a);
    }

    /** What an argument may be, and what is told of it if it is not. */
    private record Arg(int least, int greatest, boolean orNone, int refusal) {
        boolean takes(int number) {
            return number >= least && number <= greatest || orNone && number == NONE;
        }

        int[] tried() {
            TreeSet<Integer> tried = new TreeSet<>(Arrays.asList(LEAST, GREATEST, NONE));
            for (int end : new int[] {least, greatest}) {
                tried.add(end);
                if (end > LEAST) tried.add(end - 1);
                if (end < GREATEST) tried.add(end + 1);
            }
            return tried.stream().mapToInt(Integer::intValue).toArray();
        }
    }

    private record Row(String name, boolean adds, Call call, Rest rest, Arg... args) { }

    /** A shire with so many ways and pages; the pages are a statute, or orders alone. */
    private record Shire(String name, int ways, int pages, boolean ordersAlone) {
        ShireWays made() {
            ShireWays x = new ShireWays();
            for (int way = 0; way < ways; way++) x.way(way % 9, way % 9 + 1);
            for (int page = 0; page < pages; page++) add(x, page);
            return x;
        }

        private void add(ShireWays x, int page) {
            int way = page % ways, kind = page % 3;
            int sort = sortOf(page);
            if (sort == 0) x.walk(page % 20, way, kind, page % 50, page % 50 + 40);
            if (sort == 1) x.paper(way, kind, 5);
            if (sort == 2) x.broke(way, page);
            if (sort == 3) x.stop(way, 10 + page % 40, 30);
            if (sort == 4) x.make(way, kind, page % 50, 28);
            if (sort == 5) x.strike(page - 4);
            if (sort == 6) x.statute(2, 1, 0, 5);
        }

        int sortOf(int page) {
            if (ordersAlone) return 3 + page % 2;
            if (page == 0) return 6;
            int turn = page % 5;
            if (turn == 4) return page % 2 == 0 ? 4 : 3;
            return turn == 0 ? 5 : turn == 1 ? 1 : turn == 2 ? 0 : 2;
        }

        boolean isStruck(int page) {
            for (int strike = page + 1; strike < pages; strike++) {
                if (sortOf(strike) == 5 && strike - 4 == page) return true;
            }
            return false;
        }

        int orders() {
            int sum = 0;
            for (int page = 0; page < pages; page++) if (sortOf(page) == 3 || sortOf(page) == 4) sum++;
            return sum;
        }
    }

    private static final Shire[] SHIRES = {
        new Shire("nothing", 0, 0, false), new Shire("a way", 1, 0, false), new Shire("a way, a page", 1, 1, false),
        new Shire("some", 3, 12, false), new Shire("19 orders", 2, 19, true), new Shire("20 orders", 2, 20, true),
        new Shire("99 pages", 11, 99, false), new Shire("full", 12, 100, false)};

    private static int wrong = 0;
    private static long calls = 0;

    private static void due(Shire s, Row row, int[] a, String what, int got, int want) {
        calls++;
        if (got == want) return;
        wrong++;
        if (wrong > 40) return;
        System.out.println(s.name + ": " + row.name + Arrays.toString(a) + " " + what + " " + got + ", due is " + want);
    }

    // ---- what the document takes

    private static final Arg PLACE = new Arg(0, 9, false, UNKNOWN), WITNESS = new Arg(0, 19, false, UNKNOWN);
    private static final Arg KIND = new Arg(0, 2, false, BAD), YEAR = new Arg(0, 100, false, BAD);
    private static final Arg WEIGHT = new Arg(1, 9, false, BAD), DAYS = new Arg(0, 365, false, BAD);
    private static final Arg ANY = new Arg(LEAST, GREATEST, false, BAD);

    private static Arg bad(int least, int greatest) {
        return new Arg(least, greatest, false, BAD);
    }

    private static int fullBook(Shire s, int[] a) {
        return s.pages == 100 ? FULL : 0;
    }

    private static int fullOrders(Shire s, int[] a) {
        return s.pages == 100 || s.orders() == 20 ? FULL : 0;
    }

    private static int never(Shire s, int[] a) {
        return 0;
    }

    private static int ofWay(Shire s, int[] a) {
        return a[0] == a[1] ? STATE : s.ways == 12 ? FULL : 0;
    }

    private static int ofWalk(Shire s, int[] a) {
        return a[3] > a[4] ? BAD : fullBook(s, a);
    }

    private static int ofStrike(Shire s, int[] a) {
        return s.sortOf(a[0]) == 5 || s.isStruck(a[0]) ? STATE : fullBook(s, a);
    }

    private static int ofPage(Shire s, int[] a) {
        int sort = s.sortOf(a[0]);
        return a[1] == 7 || a[1] == sort || a[1] == 3 && sort == 4 ? 0 : CAST;
    }

    private static int ofGood(Shire s, int[] a) {
        int sort = s.sortOf(a[0]);
        return sort == 3 || sort == 4 ? 0 : CAST;
    }

    private static List<Row> rows(Shire s) {
        Arg way = new Arg(0, s.ways - 1, false, UNKNOWN), page = new Arg(0, s.pages - 1, false, UNKNOWN);
        Arg as = new Arg(0, s.pages - 1, true, UNKNOWN);
        Rest book = RefusalsTest::fullBook, orders = RefusalsTest::fullOrders, no = RefusalsTest::never;
        return List.of(
            new Row("way", true, (x, a) -> x.way(a[0], a[1]), RefusalsTest::ofWay, PLACE, PLACE),
            new Row("walk", true, (x, a) -> x.walk(a[0], a[1], a[2], a[3], a[4]), RefusalsTest::ofWalk, WITNESS, way,
                KIND, YEAR, YEAR),
            new Row("paper", true, (x, a) -> x.paper(a[0], a[1], a[2]), book, way, KIND, WEIGHT),
            new Row("broke", true, (x, a) -> x.broke(a[0], a[1]), book, way, YEAR),
            new Row("stop", true, (x, a) -> x.stop(a[0], a[1], a[2]), orders, way, YEAR, DAYS),
            new Row("make", true, (x, a) -> x.make(a[0], a[1], a[2], a[3]), orders, way, KIND, YEAR, DAYS),
            new Row("strike", true, (x, a) -> x.strike(a[0]), RefusalsTest::ofStrike, page),
            new Row("statute", true, (x, a) -> x.statute(a[0], a[1], a[2], a[3]), book, bad(1, 40), bad(1, 4),
                bad(0, 5), bad(1, 30)),
            new Row("page", false, (x, a) -> x.page(a[0], a[1], a[2]), RefusalsTest::ofPage, page, bad(0, 7),
                bad(0, 11)),
            new Row("counts", false, (x, a) -> x.counts(a[0], a[1]), no, page, as),
            new Row("persons", false, (x, a) -> x.persons(a[0], a[1], a[2], a[3]), no, way, KIND, YEAR, as),
            new Row("holds", false, (x, a) -> x.holds(a[0], a[1], a[2], a[3]), no, way, KIND, YEAR, as),
            new Row("lacking", false, (x, a) -> x.lacking(a[0], a[1], a[2], a[3]), no, way, KIND, YEAR, as),
            new Row("papers", false, (x, a) -> x.papers(a[0], a[1], a[2]), no, way, KIND, as),
            new Row("force", false, (x, a) -> x.force(a[0], a[1], a[2], a[3]), no, way, KIND, YEAR, as),
            new Row("most", false, (x, a) -> x.most(a[0], a[1], a[2]), no, way, YEAR, as),
            new Row("since", false, (x, a) -> x.since(a[0], a[1], a[2]), no, way, KIND, as),
            new Row("good", false, (x, a) -> x.good(a[0], a[1]), RefusalsTest::ofGood, page, as),
            new Row("leans", false, (x, a) -> x.leans(a[0], a[1], a[2], a[3], a[4]), no, page, way, KIND, YEAR, as),
            new Row("lean", false, (x, a) -> x.lean(a[0], a[1], a[2], a[3], a[4]), no, ANY, way, KIND, YEAR, as),
            new Row("steps", false, (x, a) -> x.steps(a[0], a[1], a[2], a[3], a[4]), no, PLACE, PLACE, KIND, YEAR, as),
            new Row("first", false, (x, a) -> x.first(a[0], a[1], a[2], a[3], a[4]), no, PLACE, PLACE, KIND, YEAR, as),
            new Row("reach", false, (x, a) -> x.reach(a[0], a[1], a[2], a[3]), no, PLACE, KIND, YEAR, as),
            new Row("total", false, (x, a) -> x.total(a[0]), no, bad(0, 3)));
    }

    // ---- each with each

    /** Of several what is told first: UNKNOWN ahead of BAD, and both ahead of what the row's rest tells. */
    private static int refusalDue(Shire s, Row row, int[] a) {
        int told = 0;
        for (int i = 0; i < a.length; i++) {
            if (!row.args[i].takes(a[i]) && told != UNKNOWN) told = row.args[i].refusal;
        }
        return told != 0 ? told : row.rest.refusal(s, a);
    }

    /** An object that stays in use for calls that change nothing. */
    private static final class Used {
        final Shire shire;
        ShireWays x;
        int calls;

        Used(Shire shire) {
            this.shire = shire;
            renew();
        }

        void renew() {
            x = shire.made();
            calls = 0;
        }
    }

    private static void tryAll(Shire s, Row row, Used used, int[] a, int i) {
        if (i == a.length) {
            tryOne(s, row, used, a);
            return;
        }
        for (int number : row.args[i].tried()) {
            a[i] = number;
            tryAll(s, row, used, a, i + 1);
        }
    }

    private static void tryOne(Shire s, Row row, Used used, int[] a) {
        if (used.calls > MOST_CALLS) used.renew();
        int refusal = refusalDue(s, row, a);
        int got = row.call.answer(used.x, a);
        used.calls++;
        if (refusal != 0) {
            due(s, row, a, "answered", got, refusal);
            if (row.adds) sizesStay(s, row, used, a);
        } else if (row.adds) {
            due(s, row, a, "answered", got, row.name.equals("way") ? s.ways : s.pages);
            used.renew();
        } else {
            due(s, row, a, "answered " + got + ", a refusal?", got >= 0 || got == NONE ? 1 : 0, 1);
            due(s, row, a, "answered behind refused calls", got, row.call.answer(s.made(), a));
        }
    }

    private static void sizesStay(Shire s, Row row, Used used, int[] a) {
        due(s, row, a, "ways behind it", used.x.total(0), s.ways);
        due(s, row, a, "pages behind it", used.x.total(1), s.pages);
        used.calls += 2;
    }

    // ---- nothing has changed

    private static void ask(List<Call> asks, Call call) {
        asks.add(call);
    }

    /** What is asked to see whether two shires are alike: all of the book, and each way in some years. */
    private static List<Call> asks(Shire s) {
        List<Call> asks = new ArrayList<>();
        for (int what = 0; what <= 3; what++) {
            int w = what;
            ask(asks, (x, a) -> x.total(w));
        }
        for (int page = 0; page < s.pages; page++) askPage(asks, page, s.pages);
        for (int way = 0; way < s.ways; way++) askWay(asks, way);
        for (int place = 0; place <= 9; place++) {
            int p = place;
            ask(asks, (x, a) -> x.steps(0, p, 0, 45, NONE));
            ask(asks, (x, a) -> x.first(p, 1, 0, 45, NONE));
            ask(asks, (x, a) -> x.reach(p, 0, 20, NONE));
        }
        return asks;
    }

    private static void askPage(List<Call> asks, int page, int pages) {
        for (int what = 0; what <= 11; what++) {
            int w = what;
            ask(asks, (x, a) -> x.page(page, 7, w));
        }
        ask(asks, (x, a) -> x.counts(page, NONE));
        ask(asks, (x, a) -> x.counts(page, pages - 1));
        ask(asks, (x, a) -> x.counts(0, page));
        ask(asks, (x, a) -> x.good(page, NONE));
        ask(asks, (x, a) -> x.leans(page, 0, 0, 45, NONE));
    }

    private static void askWay(List<Call> asks, int way) {
        for (int kind = 0; kind <= 2; kind++) {
            int k = kind;
            ask(asks, (x, a) -> x.papers(way, k, NONE));
            ask(asks, (x, a) -> x.since(way, k, NONE));
            ask(asks, (x, a) -> x.lean(0, way, k, 45, NONE));
            for (int year : new int[] {0, 1, 20, 45, 100}) {
                ask(asks, (x, a) -> x.force(way, k, year, NONE));
                ask(asks, (x, a) -> x.persons(way, k, year, NONE));
                ask(asks, (x, a) -> x.lacking(way, k, year, NONE));
            }
        }
        ask(asks, (x, a) -> x.most(way, 45, NONE));
    }

    /** The answers to all that is asked; the calls ahead of it are done on each object that is needed for that. */
    private static int[] answers(Shire s, List<Call> asks, Consumer<ShireWays> ahead) {
        int[] answers = new int[asks.size()];
        ShireWays x = null;
        for (int i = 0; i < answers.length; i++) {
            if (i % MOST_CALLS == 0) {
                x = s.made();
                ahead.accept(x);
            }
            answers[i] = asks.get(i).answer(x, null);
        }
        calls += answers.length;
        return answers;
    }

    private static int anyTaken(Arg arg) {
        return arg == ANY ? 0 : arg.least <= arg.greatest ? arg.least : NONE;
    }

    /** Each argument wrong alone, and then the call of which only the rest is refused. */
    private static List<int[]> refusedOnes(Shire s, Row row) {
        List<int[]> refused = new ArrayList<>();
        for (int i = 0; i < row.args.length; i++) {
            for (int number : row.args[i].tried()) {
                int[] a = new int[row.args.length];
                for (int j = 0; j < a.length; j++) a[j] = anyTaken(row.args[j]);
                if (row.name.equals("way")) a[1] = 5;
                a[i] = number;
                if (refusalDue(s, row, a) != 0) refused.add(a);
            }
        }
        return refused;
    }

    private static void nothingChanges(Shire s) {
        List<Call> asks = asks(s);
        int[] without = answers(s, asks, x -> { });
        for (Row row : rows(s)) {
            if (!row.adds && s.pages > 50) continue;
            for (int[] a : refusedOnes(s, row)) {
                int[] with = answers(s, asks, x -> row.call.answer(x, a));
                due(s, row, a, "changed an answer, the first of number", Arrays.mismatch(with, without), -1);
                goesOn(s, row, a);
            }
        }
    }

    /** Behind a refused call the next way and page have the numbers that they would have had. */
    private static void goesOn(Shire s, Row row, int[] a) {
        ShireWays x = s.made();
        row.call.answer(x, a);
        due(s, row, a, "and the next page", x.statute(1, 1, 0, 1), s.pages == 100 ? FULL : s.pages);
        due(s, row, a, "and the next way", x.way(0, 9), s.ways == 12 ? FULL : s.ways);
        if (s.pages >= 99 || s.ways == 0) return;
        due(s, row, a, "and the next order", x.stop(0, 0, 0), s.orders() == 20 ? FULL : s.pages + 1);
    }

    public static void main(String[] args) {
        for (Shire s : SHIRES) {
            for (Row row : rows(s)) tryAll(s, row, new Used(s), new int[row.args.length], 0);
            nothingChanges(s);
        }
        System.out.println(calls + " calls, " + wrong + " not as due");
        if (wrong != 0) System.exit(1);
    }
}
