/** What was found stays, whatever else is found and thrown away behind it; the same error stays the same. */
public final class KeepTest {
    private static final Checks CHECKS = new Checks();

    /** Finds so much that what nobody refers to any more is thrown away, and forgets older undos. */
    private static void churn(NoteDocument x, int row, int number) {
        for (int i = 0; i < 90; i++) {
            x.set(3, 0, 0, i);
            x.put(3, 0, 1, i % 2 == 0 ? row : number);
            x.spills(3, 0, 1);
        }
    }

    private static void fourGrids(NoteDocument x) {
        for (int i = 0; i < 4; i++) {
            x.grid(10, 5);
        }
    }

    /** A cell that read a row last; the row is found anew, and is the same. */
    private static void rows() {
        CHECKS.promise("A row that was read");
        NoteDocument x = new NoteDocument();
        fourGrids(x);
        int nought = Make.two(x, Make.MULTIPLY, Make.cell(x, 9, 4), x.number(0));
        x.put(0, 0, 0, Make.two(x, Make.ADD, Make.upTo(x, 5), nought));
        x.put(0, 0, 1, Make.fold(x, 0, Make.spill(x, 0, 0)));
        CHECKS.due("the sum", x.value(0, 0, 1), 15);
        int number = x.cell(3, 0, 0, false);
        int row = Make.two(x, Make.ADD, Make.upTo(x, 10), number);
        x.set(0, 9, 4, 3);
        x.value(0, 0, 0);
        for (int i = 0; i < 4; i++) {
            churn(x, row, number);
            x.set(0, 9, 4, 4 + i);
            x.value(0, 0, 0);
            int runs = x.runs();
            CHECKS.due("the sum", x.value(0, 0, 1), 15);
            CHECKS.due("the row has not changed", x.runs(), runs);
        }
        x.put(0, 0, 2, Make.list(x, 1, Make.spill(x, 0, 0)));
        CHECKS.due("reversed", x.value(0, 0, 2), 5);
        churn(x, row, number);
        CHECKS.due("it is as it was found", Make.all(x, 0, 3).substring(0, 30), "1 15 5 / 2 - 4 / 3 - 3 / 4 - 2");
    }

    /** A chain of cells of the grids 1 and 2, each the one ahead of it. */
    private static int[] chain(NoteDocument x) {
        int[] ahead = new int[100];
        for (int i = 1; i < 100; i++) {
            ahead[i] = x.cell(1 + (i - 1) / 50, (i - 1) % 50 / 5, (i - 1) % 5, false);
            x.put(1 + i / 50, i % 50 / 5, i % 5, ahead[i]);
        }
        return ahead;
    }

    /** Lets errors come through so many cells in so many ways that those of old are thrown away. */
    private static void errors(NoteDocument x, int[] ahead, int broken, int times) {
        for (int i = 1; i <= times; i++) {
            x.put(1 + i / 50, i % 50 / 5, i % 5, broken);
            CHECKS.due("through", x.through(2, 9, 4), 100 - i);
            x.put(1 + i / 50, i % 50 / 5, i % 5, ahead[i]);
        }
        CHECKS.due("none", x.through(2, 9, 4), 0);
    }

    /** An error of each cell is the same one when the cell is run anew, whatever errors there were meanwhile. */
    private static void sameErrors() {
        CHECKS.promise("The same error");
        for (int cell = 0; cell < 200; cell++) {
            if (cell % 20 != 0 && cell != 199 || cell >= 50 && cell < 150) {
                sameError(cell, 0, 0);
            } else {
                sameError(cell, 0, 1);
                sameError(cell, 5, 0);
                sameError(cell, 5, 5);
            }
        }
    }

    private static void sameError(int cell, int ahead, int meanwhile) {
        NoteDocument x = new NoteDocument();
        fourGrids(x);
        int last = cell < 100 ? 198 : 20;
        int source = x.cell(last / 50, last % 50 / 5, last % 5, false);
        int broken = Make.two(x, Make.DIVIDE, source, x.number(0));
        boolean isLong = ahead + meanwhile > 0;
        int[] chain = isLong ? chain(x) : new int[0];
        if (ahead > 0) {
            errors(x, chain, broken, ahead);
        }
        x.put(cell / 50, cell % 50 / 5, cell % 5, broken);
        int reader = last - 1;
        x.put(reader / 50, reader % 50 / 5, reader % 5, x.cell(cell / 50, cell % 50 / 5, cell % 5, false));
        CHECKS.due("through both", x.through(reader / 50, reader % 50 / 5, reader % 5), 2);
        if (meanwhile > 0) {
            errors(x, chain, broken, meanwhile);
        }
        int runs = x.runs();
        x.set(last / 50, last % 50 / 5, last % 5, 7);
        CHECKS.due("through both", x.through(reader / 50, reader % 50 / 5, reader % 5), 2);
        int due = 100 * (cell / 50) + 10 * (cell % 50 / 5) + cell % 5;
        CHECKS.due("arose there", x.cause(reader / 50, reader % 50 / 5, reader % 5), due);
        CHECKS.due("the reader is not run anew: cell " + cell, x.runs(), runs + 1);
    }

    /** An error came to a cell, alone or in a row; meanwhile nobody else has it, and others are thrown away. */
    private static void lastRead() {
        CHECKS.promise("An error that was read");
        for (int which = 0; which < 3; which++) {
            NoteDocument x = new NoteDocument();
            fourGrids(x);
            int broken = Make.error(x);
            int[] ahead = chain(x);
            x.put(0, 0, 0, broken);
            x.put(0, 0, 1, x.when(Make.cell(x, 9, 4), Make.cell(x, 0, 0), x.number(1)));
            x.set(0, 9, 4, 1);
            int error = Make.cell(x, 0, 1);
            // It is what was read last, the value itself, or the last one of a row.
            int[] readers = {Make.orElse(x, error, x.number(5)), error,
                x.range(0, 0, 0, 0, 1)};
            x.put(0, 0, 2, readers[which]);
            String found = Make.all(x, 0, 3);
            int through = x.through(0, which == 2 ? 1 : 0, 2);
            CHECKS.due("through", through, which == 0 ? 0 : 3);
            x.set(0, 9, 4, 0);
            CHECKS.due("no error any more", x.value(0, 0, 1), 1);
            for (int i = 0; i < 3; i++) {
                errors(x, ahead, broken, 6);
            }
            x.setWay(2);
            CHECKS.due("by hand the reader is as it was", x.through(0, which == 2 ? 1 : 0, 2), through);
            x.setWay(0);
            x.set(0, 9, 4, 2);
            CHECKS.due("it is back", x.through(0, 0, 1), 2);
            int runs = x.runs();
            CHECKS.due("the reader", x.through(0, which == 2 ? 1 : 0, 2), through);
            CHECKS.due("read the same error", x.runs(), runs);
            x.set(0, 9, 4, 1);
            CHECKS.due("all of them", Make.all(x, 0, 3), found);
        }
    }

    /** A formula that reads the same cells again and again notes each once. */
    private static void manyReads() {
        CHECKS.promise("The same cells, many times");
        NoteDocument x = new NoteDocument();
        fourGrids(x);
        int count = Make.fold(x, 0, x.range(0, 0, 0, 9, 4));
        int all = count;
        for (int i = 1; i < 13; i++) {
            all = Make.two(x, Make.ADD, all, count);
        }
        x.put(1, 0, 0, all);
        CHECKS.due("of nothing", x.value(1, 0, 0), 0);
        for (int i = 0; i < 50; i++) {
            x.set(0, i / 5, i % 5, 1);
            CHECKS.due("each counts thirteen times", x.value(1, 0, 0), 13 * (i + 1));
        }
        CHECKS.due("a run for each", x.runs(), 51);
    }

    public static void main(String[] args) {
        rows();
        sameErrors();
        lastRead();
        manyReads();
        CHECKS.end();
    }
}
