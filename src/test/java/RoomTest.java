import java.lang.management.ManagementFactory;

/** Long and deep runs: all calls of one run live in one room, and few calls stand open at once. */
public final class RoomTest {
    // 7.3 million fields and elements; most are longs.
    private static final long ROOM = 7300000L * 8;
    private static int passed = 0;
    private static int failed = 0;

    private interface Job {
        void run(NoteDocument x);
    }

    private static void due(String what, long got, long want) {
        if (got == want) {
            passed++;
        } else {
            failed++;
            System.out.println(what + " answered " + got + ", due is " + want);
        }
    }

    private static long made() {
        var threads = (com.sun.management.ThreadMXBean) ManagementFactory.getThreadMXBean();
        return threads.getThreadAllocatedBytes(Thread.currentThread().getId());
    }

    /** Runs a job on a small stack, and counts what it makes. */
    private static void job(String name, Job job) throws InterruptedException {
        boolean[] isFine = {false};
        Thread thread = new Thread(null, () -> {
            long before = made();
            job.run(new NoteDocument());
            isFine[0] = made() - before < ROOM;
        }, name, 1 << 18);
        thread.start();
        thread.join();
        due(name + " within its room", isFine[0] ? 1 : 0, 1);
    }

    private static void fourGrids(NoteDocument x) {
        for (int i = 0; i < 4; i++) {
            x.grid(10, 5);
        }
    }

    /** 149 cells, each the one before it; the first one is a number and an error by turns. */
    private static void chain(NoteDocument x) {
        fourGrids(x);
        int outside = x.leaf(2, 0);
        for (int i = 1; i < 150; i++) {
            int before = x.cell((i - 1) / 50, (i - 1) % 50 / 5, (i - 1) % 5, false);
            x.put(i / 50, i % 50 / 5, i % 5, before);
        }
        int last = 149;
        for (int i = 0; i < 50; i++) {
            x.set(0, 0, 0, i);
            due("the chain", x.value(last / 50, last % 50 / 5, last % 5), i);
            x.put(0, 0, 0, outside);
            due("the error", x.through(last / 50, last % 50 / 5, last % 5), 150);
        }
    }

    /** 149 cells, each the one before it; errors arise in one after the other, far more chains than at first. */
    private static void errors(NoteDocument x) {
        fourGrids(x);
        int outside = x.leaf(2, 0);
        int[] before = new int[150];
        for (int i = 1; i < 150; i++) {
            before[i] = x.cell((i - 1) / 50, (i - 1) % 50 / 5, (i - 1) % 5, false);
            x.put(i / 50, i % 50 / 5, i % 5, before[i]);
        }
        for (int i = 1; i < 148; i += 3) {
            x.put(i / 50, i % 50 / 5, i % 5, outside);
            due("through", x.through(2, 9, 4), 150 - i);
            due("cause", x.cause(2, 9, 4), 100 * (i / 50) + 10 * (i % 50 / 5) + i % 5);
            x.put(i / 50, i % 50 / 5, i % 5, before[i]);
        }
        due("none", x.through(2, 9, 4), 0);
    }

    /** A function that calls itself, and the next one, for all that it can be given. */
    private static void functions(NoteDocument x) {
        x.grid(10, 5);
        int first = x.leaf(2, 0);
        int second = x.leaf(2, 1);
        int one = x.number(1);
        int twelve = x.number(12);
        int source = x.cell(0, 0, 0, false);
        int less = x.node(0, 1, first, one);
        int lessToo = x.node(0, 1, second, one);
        for (int f = 0; f < 4; f++) {
            int sum = x.node(0, 0, x.node(5, f, less, second), source);
            int next = f == 3 ? source : x.node(5, f + 1, twelve, twelve);
            x.define(f, x.when(first, sum, x.when(second, x.node(5, f, twelve, lessToo), next)));
        }
        x.put(0, 0, 1, x.node(5, 0, twelve, twelve));
        for (int i = 0; i < 150; i++) {
            x.set(0, 0, 0, i);
            due("the functions", x.value(0, 0, 1), i * (4L * 13 * 12 + 1));
        }
        due("calls", x.calls(), 150 * 676);
    }

    /** Rounds in which all that spills is another row each time. */
    private static void rounds(NoteDocument x) {
        fourGrids(x);
        int held = x.cell(0, 0, 0, false);
        x.put(0, 0, 0, x.node(0, 0, held, x.number(1)));
        x.hold(0, 0, 0, 0);
        int row = x.node(0, 0, x.node(2, 0, x.number(10), 0), held);
        for (int i = 1; i < 20; i++) {
            x.put(i / 5, 0, i % 5, row);
        }
        x.setWay(1);
        for (int i = 0; i < 400; i++) {
            x.rounds(50);
        }
        due("the rounds", x.value(3, 9, 4), 20010);
    }

    /** Formulas that read hundreds of formulas. */
    private static void wide(NoteDocument x) {
        fourGrids(x);
        int[] sum = new int[3];
        for (int g = 0; g < 3; g++) {
            sum[g] = x.node(1, 0, x.range(g, 0, 0, 9, 4), 0);
        }
        int[] all = {x.number(1), sum[0], x.node(0, 0, sum[0], sum[1]), x.node(0, 0, sum[0], x.node(0, 0, sum[1], sum[2]))};
        for (int i = 1; i < 200; i++) {
            x.put(i / 50, i % 50 / 5, i % 5, all[i / 50]);
        }
        x.setWay(1);
        for (int i = 0; i < 250; i++) {
            x.set(0, 0, 0, i);
        }
        due("the sums", x.value(3, 9, 4), 51L * 51L * (249 + 49));
        due("seek", x.seek(0, 0, 0, 39, 0, 40), 39);
        due("tried last", x.valueFromNothing(3, 0, 0), 51L * 51L * (249 + 49));
    }

    /** All functions for nearly all that they can be given, each reading 150 formulas, found anew by each call. */
    private static void full(NoteDocument x) {
        fourGrids(x);
        int[] sum = new int[3];
        for (int g = 0; g < 3; g++) {
            sum[g] = x.node(1, 0, x.range(g, 0, 0, 9, 4), 0);
        }
        int all = x.node(0, 0, sum[0], x.node(0, 0, sum[1], sum[2]));
        int source = x.cell(0, 0, 0, false);
        for (int i = 1; i < 150; i++) {
            x.put(i / 50, i % 50 / 5, i % 5, source);
        }
        int body = x.node(0, 0, all, x.node(0, 0, x.leaf(2, 0), x.leaf(2, 1)));
        for (int f = 0; f < 4; f++) {
            x.define(f, body);
        }
        int row = x.node(0, 1, x.node(2, 0, x.number(13), 0), x.number(1));
        int[] number = new int[13];
        for (int i = 0; i < 13; i++) {
            number[i] = x.number(i);
        }
        for (int i = 0; i < 50; i++) {
            x.put(3, i / 5, i % 5, x.node(1, 0, x.node(6, i / 13, row, number[i % 13]), 0));
        }
        x.setWay(1);
        for (int i = 0; i < 150; i++) {
            x.set(0, 0, 0, i);
        }
        due("the functions", x.value(3, 9, 4), 13 * (150 * 149 + 10) + 78);
    }

    public static void main(String[] args) throws InterruptedException {
        job("chain", RoomTest::chain);
        job("errors", RoomTest::errors);
        job("functions", RoomTest::functions);
        job("rounds", RoomTest::rounds);
        job("wide", RoomTest::wide);
        job("full", RoomTest::full);
        System.out.println(passed + " passed, " + failed + " failed");
        System.exit(failed == 0 ? 0 : 1);
    }
}
