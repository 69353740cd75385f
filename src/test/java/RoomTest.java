import com.sun.management.ThreadMXBean;
import java.lang.management.ManagementFactory;

/** What a run makes: the rows of the constructor alone, and nothing in any call. */
public final class RoomTest {
    private static final int MOST_BYTES_OF_A_NEW_ONE = 32_000;

    // An object is used for 512 calls at most: some 120 that write, and 16 in each round of those that ask.
    private static final int OBJECTS = 10, ROUNDS = 22;
    private static final ThreadMXBean ROOM = (ThreadMXBean) ManagementFactory.getThreadMXBean();

    private static long made() {
        return ROOM.getCurrentThreadAllocatedBytes();
    }

    private static int write(ShireWays x) {
        int sum = 0;
        for (int way = 0; way < 13; way++) sum += x.way(way % 10, (way + 1) % 10);
        sum += x.statute(3, 1, 1, 9);
        for (int page = 0; page < 21; page++) {
            sum += x.walk(page % 20, page % 12, page % 3, page, page + 40);
            sum += x.paper(page % 12, page % 3, 5) + x.broke(page % 12, page + 50);
            sum += page % 2 == 0 ? x.make(page % 12, 1, page, 30) : x.stop(page % 12, page, 30);
            sum += x.strike(page);
        }
        return sum;
    }

    private static int ask(ShireWays x, int round) {
        int w = round % 12, k = round % 3, y = round % 101, as = round % 2 == 0 ? -9 : round % 90, p = round % 90;
        return x.page(p, 7, round % 12) + x.counts(p, as) + x.persons(w, k, y, as) + x.holds(w, k, y, as)
                + x.lacking(w, k, y, as) + x.papers(w, k, as) + x.force(w, k, y, as) + x.most(w, y, as)
                + x.since(w, k, as) + x.good(p, as) + x.leans(p, w, k, y, as) + x.lean(round % 4, w, k, y, as)
                + x.steps(p % 10, y % 10, k, y, as) + x.first(p % 10, y % 10, k, y, as) + x.reach(p % 10, k, y, as)
                + x.total(round % 4);
    }

    public static void main(String[] args) {
        int wrong = 0, sum = 0;
        ShireWays warm = new ShireWays();
        sum += write(warm) + ask(warm, 0);
        made();
        long ahead = made();
        ShireWays[] all = new ShireWays[OBJECTS];
        ahead = made();
        for (int i = 0; i < OBJECTS; i++) all[i] = new ShireWays();
        long whole = (made() - ahead) / OBJECTS;
        if (whole > MOST_BYTES_OF_A_NEW_ONE) wrong++;
        ahead = made();
        for (int i = 0; i < OBJECTS; i++) {
            sum += write(all[i]);
            for (int round = 0; round < ROUNDS; round++) sum += ask(all[i], ROUNDS * i + round);
        }
        long inCalls = made() - ahead;
        if (inCalls != 0) wrong++;
        System.out.println("a new one makes " + whole + " bytes, its calls " + inCalls + " (answers' sum " + sum + ")");
        if (wrong != 0) System.exit(1);
    }
}
