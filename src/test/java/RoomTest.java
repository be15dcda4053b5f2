import java.lang.management.ManagementFactory;

/** Long and deep runs: all calls of one run live in one room, and few calls stand open at once. */
public final class RoomTest {
    // 7.3 million fields and elements; most are longs.
    private static final long ROOM = 7300000L * 8;
    private static int passed = 0;
    private static int failed = 0;

    private interface Job {
        void run(NoteDocument x);
    }

    private static void due(String what, long got, long want) {
        if (got == want) {
            passed++;
        } else {
            failed++;
            System.out.println(what + " answered " + got + ", due is " + want);
        }
    }

    private static long made() {
        var threads = (com.sun.management.ThreadMXBean) ManagementFactory.getThreadMXBean();
        return threads.getThreadAllocatedBytes(Thread.currentThread().getId());
    }

    /** Runs a job on a small stack, and counts what it makes. */
    private static void job(String name, Job job) throws InterruptedException {
        boolean[] isFine = {false};
        Thread thread = new Thread(null, () -> {
            long before = made();
            job.run(new NoteDocument());
            isFine[0] = made() - before < ROOM;
        }, name, 1 << 18);
        thread.start();
        thread.join();
        due(name + " within its room", isFine[0] ? 1 : 0, 1);
    }

    private static void fourGrids(NoteDocument x) {
        for (int i = 0; i < 4; i++) {
            x.grid(10, 5);
        }
    }

    /** 149 cells, each the one before it; the first one is a number and an error by turns. */
    private static void chain(NoteDocument x) {
        fourGrids(x);
        int outside = x.leaf(2, 0);
        for (int i = 1; i < 150; i++) {
            int before = x.cell((i - 1) / 50, (i - 1) % 50 / 5, (i - 1) % 5, false);
            x.put(i / 50, i % 50 / 5, i % 5, before);
        }
        int last = 149;
        for (int i = 0; i < 50; i++) {
            x.set(0, 0, 0, i);
            due("the chain", x.value(last / 50, last % 50 / 5, last % 5), i);
            x.put(0, 0, 0, outside);
            due("the error", x.through(last / 50, last % 50 / 5, last % 5), 150);
        }
    }

    /** 149 cells, each the one before it; errors arise in one after the other, far more chains than at first. */
    private static void errors(NoteDocument x) {
        fourGrids(x);
        int outside = x.leaf(2, 0);
        int[] before = new int[150];
        for (int i = 1; i < 150; i++) {
            before[i] = x.cell((i - 1) / 50, (i - 1) % 50 / 5, (i - 1) % 5, false);
            x.put(i / 50, i % 50 / 5, i % 5, before[i]);
        }
        for (int i = 1; i < 148; i += 3) {
            x.put(i / 50, i % 50 / 5, i % 5, outside);
            due("through", x.through(2, 9, 4), 150 - i);
            due("cause", x.cause(2, 9, 4), 100 * (i / 50) + 10 * (i % 50 / 5) + i % 5);
            x.put(i / 50, i % 50 / 5, i % 5, before[i]);
        }
        due("none", x.through(2, 9, 4), 0);
    }

    /** A function that calls itself, and the next one, for all that it can be given. */
    private static void functions(NoteDocument x) {
        x.grid(10, 5);
        int first = x.leaf(2, 0);
        int second = x.leaf(2, 1);
        int one = x.number(1);
        int twelve = x.number(12);
        int source = x.cell(0, 0, 0, false);
        int less = x.node(0, 1, first, one);
        int lessToo = x.node(0, 1, second, one);
        for (int f = 0; f < 4; f++) {
            int sum = x.node(0, 0, x.node(5, f, less, second), source);
            int next = f == 3 ? source : x.node(5, f + 1, twelve, twelve);
            x.define(f, x.when(first, sum, x.when(second, x.node(5, f, twelve, lessToo), next)));
        }
        x.put(0, 0, 1, x.node(5, 0, twelve, twelve));
        for (int i = 0; i < 150; i++) {
            x.set(0, 0, 0, i);
            due("the functions", x.value(0, 0, 1), i * (4L * 13 * 12 + 1));
        }
        due("calls", x.calls(), 150 * 676);
    }

    /** Rounds in which all that spills is another row each time. */
    private static void rounds(NoteDocument x) {
        fourGrids(x);
        int held = x.cell(0, 0, 0, false);
        x.put(0, 0, 0, x.node(0, 0, held, x.number(1)));
        x.hold(0, 0, 0, 0);
        int row = x.node(0, 0, x.node(2, 0, x.number(10), 0), held);
        for (int i = 1; i < 20; i++) {
            x.put(i / 5, 0, i % 5, row);
        }
        x.setWay(1);
        for (int i = 0; i < 400; i++) {
            x.rounds(50);
        }
        due("the rounds", x.value(3, 9, 4), 20010);
    }

    /** Formulas that read hundreds of formulas. */
    private static void wide(NoteDocument x) {
        fourGrids(x);
        int[] sum = new int[3];
        for (int g = 0; g < 3; g++) {
            sum[g] = x.node(1, 0, x.range(g, 0, 0, 9, 4), 0);
        }
        int[] all = {x.number(1), sum[0], x.node(0, 0, sum[0], sum[1]), x.node(0, 0, sum[0], x.node(0, 0, sum[1], sum[2]))};
        for (int i = 1; i < 200; i++) {
            x.put(i / 50, i % 50 / 5, i % 5, all[i / 50]);
        }
        x.setWay(1);
        for (int i = 0; i < 250; i++) {
            x.set(0, 0, 0, i);
        }
        due("the sums", x.value(3, 9, 4), 51L * 51L * (249 + 49));
        due("seek", x.seek(0, 0, 0, 39, 0, 40), 39);
        due("tried last", x.valueFromNothing(3, 0, 0), 51L * 51L * (249 + 49));
    }

    /** All functions for nearly all that they can be given, each reading 150 formulas, found anew by each call. */
    private static void full(NoteDocument x) {
        fourGrids(x);
        int[] sum = new int[3];
        for (int g = 0; g < 3; g++) {
            sum[g] = x.node(1, 0, x.range(g, 0, 0, 9, 4), 0);
        }
        int all = x.node(0, 0, sum[0], x.node(0, 0, sum[1], sum[2]));
        int source = x.cell(0, 0, 0, false);
        for (int i = 1; i < 150; i++) {
            x.put(i / 50, i % 50 / 5, i % 5, source);
        }
        int body = x.node(0, 0, all, x.node(0, 0, x.leaf(2, 0), x.leaf(2, 1)));
        for (int f = 0; f < 4; f++) {
            x.define(f, body);
        }
        int row = x.node(0, 1, x.node(2, 0, x.number(13), 0), x.number(1));
        int[] number = new int[13];
        for (int i = 0; i < 13; i++) {
            number[i] = x.number(i);
        }
        for (int i = 0; i < 50; i++) {
            x.put(3, i / 5, i % 5, x.node(1, 0, x.node(6, i / 13, row, number[i % 13]), 0));
        }
        x.setWay(1);
        for (int i = 0; i < 150; i++) {
            x.set(0, 0, 0, i);
        }
        due("the functions", x.value(3, 9, 4), 13 * (150 * 149 + 10) + 78);
    }

    /**
     * An error that comes to 150 cells by a way that each round makes another one of: the bits of a
     * held number tell through which one of two cells it comes, fifteen times.
     */
    private static void paths(NoteDocument x) {
        fourGrids(x);
        int held = x.cell(0, 0, 0, false);
        put(x, 0, x.node(0, 0, held, x.number(1)));
        x.hold(0, 0, 0, 0);
        int two = x.number(2);
        put(x, 1, x.leaf(2, 0));
        put(x, 2, x.leaf(2, 0));
        int at = 3;
        for (int i = 0; i < 15; i++) {
            int bit = x.node(0, 4, x.node(0, 3, held, x.number(1L << i)), two);
            int way = x.when(bit, cell(x, at - 2), cell(x, at - 1));
            put(x, at, way);
            put(x, at + 1, way);
            at += 2;
        }
        for (int i = 0; i < 40; i++) {
            put(x, at, cell(x, at - 1));
            at++;
        }
        int last = cell(x, at - 1);
        for (int i = at; i < 200; i++) {
            put(x, i, last);
            x.hold(i / 50, i % 50 / 5, i % 5, 0);
        }
        for (int i = 0; i < 100; i++) {
            x.rounds(50);
        }
        due("the rounds", x.value(0, 0, 0), 5000);
        x.hold(3, 9, 4, 0);
        due("the last cell", x.through(3, 9, 4), 57);
        due("the first one", x.cause(3, 9, 4), 2);
    }

    private static void put(NoteDocument x, int at, int node) {
        x.put(at / 50, at % 50 / 5, at % 5, node);
    }

    private static int cell(NoteDocument x, int at) {
        return x.cell(at / 50, at % 50 / 5, at % 5, false);
    }

    /** All functions for all that they can be given, each reading 189 formulas that all change by each call. */
    private static void fullest(NoteDocument x) {
        fourGrids(x);
        int one = x.number(1);
        int twelve = x.number(12);
        int ahead = x.cell(0, 0, 0, false);
        for (int g = 0; g < 4; g++) {
            int columns = g == 3 ? 4 : 5;
            for (int i = 0; i < 50; i++) {
                if (g + i > 0 && i % 5 < columns) {
                    x.put(g, i / 5, i % 5, ahead);
                }
            }
            ahead = x.node(0, 0, ahead, x.node(1, 1, x.range(g, 0, 0, 9, columns - 1), 0));
        }
        int first = x.leaf(2, 0);
        int second = x.leaf(2, 1);
        for (int f = 0; f < 4; f++) {
            int less = x.node(7, 0, x.node(5, f, x.node(0, 1, first, one), second), one);
            int lessToo = x.node(7, 0, x.node(5, f, first, x.node(0, 1, second, one)), one);
            int body = x.node(0, 6, ahead, x.node(0, 6, less, lessToo));
            x.define(f, f == 3 ? body : x.node(0, 6, body, x.node(5, f + 1, twelve, twelve)));
        }
        x.put(3, 0, 4, x.node(5, 0, twelve, twelve));
        x.setWay(1);
        for (int i = 0; i < 100; i++) {
            x.set(0, 0, 0, i);
        }
        due("the functions", x.value(3, 0, 4), 99 + 190);
        due("calls", x.calls(), 101 * 676);
        x.setWay(0);
        x.put(0, 0, 0, x.node(0, 0, x.cell(0, 0, 0, false), one));
        x.hold(0, 0, 0, 0);
        x.hold(3, 0, 4, 0);
        due("rounds", x.rounds(50), 50);
        due("rounds", x.rounds(50), 50);
        due("held", x.value(3, 0, 4), 99 + 190);
    }

    public static void main(String[] args) throws InterruptedException {
        job("chain", RoomTest::chain);
        job("errors", RoomTest::errors);
        job("functions", RoomTest::functions);
        job("rounds", RoomTest::rounds);
        job("wide", RoomTest::wide);
        job("full", RoomTest::full);
        job("paths", RoomTest::paths);
        job("fullest", RoomTest::fullest);
        System.out.println(passed + " passed, " + failed + " failed");
        System.exit(failed == 0 ? 0 : 1);
    }
}
