/** The edges of promises 9 to 15, and of the values of nodes. */
public final class NodeEdgesTest {
    private static final Checks CHECKS = new Checks();
    private static final long MOST = Checks.MOST;

    /** What a formula comes to is due. */
    private static void due(String what, Make.Formula formula, String want) {
        CHECKS.due(what, Make.of(formula), want);
    }

    private static void numbers() {
        CHECKS.promise("Promise 9");
        NoteDocument x = new NoteDocument();
        for (long number : new long[] {MOST + 1, -MOST - 1, Long.MAX_VALUE, Long.MIN_VALUE}) {
            CHECKS.thrown("out of range", Checks.ARGUMENT, () -> x.number(number));
        }
        int made = 0;
        for (long number : new long[] {MOST, -MOST, 0, -1}) {
            CHECKS.due("numbered as they are made", x.number(number), made++);
            due("NUMBER", y -> y.number(number), "" + number);
        }
    }

    /** There are at most 150 nodes, of whichever kind, and undo() gives none back. */
    private static void mostNodes() {
        CHECKS.promise("150 nodes");
        Make.Formula[] last = {x -> x.number(1), x -> x.cell(0, 0, 0, false), x -> x.cell(0, 0, 0, true),
            x -> x.range(0, 0, 0, 0, 0), x -> x.leaf(0, 0), x -> x.leaf(1, 5), x -> x.leaf(2, 1), x -> x.leaf(4, 0),
            x -> x.leaf(5, 0), x -> x.leaf(6, 9), x -> x.node(0, 9, 0, 148), x -> x.node(7, 0, 148, 0),
            x -> x.when(148, 0, 148)};
        for (Make.Formula formula : last) {
            NoteDocument x = Make.document(1, 1);
            Make.nodes(x, 149);
            CHECKS.due("the last one", formula.in(x), 149);
            for (Make.Formula more : last) {
                CHECKS.thrown("one more", Checks.STATE, () -> more.in(x));
            }
            x.put(0, 0, 0, 149);
            CHECKS.thrownBy("a node behind", Checks.INDEX, () -> x.put(0, 0, 0, 150));
            x.undo();
            CHECKS.thrown("behind undo", Checks.STATE, () -> x.number(1));
            x.put(0, 0, 0, 149);
        }
        NoteDocument x = Make.document(1, 1);
        Make.nodes(x, 150);
        CHECKS.thrown("number", Checks.ARGUMENT, () -> x.number(MOST + 1));
        CHECKS.thrown("cell", Checks.INDEX, () -> x.cell(0, 1, 0, false));
        CHECKS.thrown("range", Checks.INDEX, () -> x.range(0, 0, 0, 1, 0));
        CHECKS.thrown("leaf", Checks.ARGUMENT, () -> x.leaf(7, 0));
        CHECKS.thrown("kind", Checks.ARGUMENT, () -> x.node(8, 0, 200, 0));
        CHECKS.thrown("node", Checks.INDEX, () -> x.node(0, 0, 150, 0));
        CHECKS.thrown("when", Checks.INDEX, () -> x.when(0, 0, 150));
    }

    private static void references() {
        CHECKS.promise("Promise 10");
        NoteDocument x = Make.document(2, 3);
        int spilled = Make.upTo(x, 2);
        x.put(0, 0, 0, spilled);
        CHECKS.due("CELL of the first cell", value(x, x.cell(0, 0, 0, false)), "1");
        CHECKS.due("SPILL of it", value(x, Make.fold(x, Make.FOLD_SUM, x.cell(0, 0, 0, true))), "3");
        CHECKS.due("CELL of what it spills into", value(x, x.cell(0, 1, 0, false)), "2");
        CHECKS.due("SPILL of that is no row", value(x, Make.fold(x, Make.FOLD_SUM, x.cell(0, 1, 0, true))), "!6");
        CHECKS.due("of an empty cell", value(x, x.cell(0, 1, 2, true)), "-");
        x.put(0, 0, 2, Make.upTo(x, 1));
        CHECKS.due("SPILL of a row of one value, which is that value", value(x, Make.fold(x, 1, x.cell(0, 0, 2, true))),
            "!6");
        x.set(0, 1, 2, 7);
        CHECKS.due("of the last cell", value(x, x.cell(0, 1, 2, false)), "7");
        CHECKS.due("SPILL of a number", value(x, x.cell(0, 1, 2, true)), "7");

        CHECKS.promise("Promise 11");
        NoteDocument y = Make.document(3, 3);
        int[][] wrong = {{0, 0, 3, 0}, {0, 0, 0, 3}, {-1, 0, 0, 0}, {0, -1, 0, 0}, {3, 0, 3, 0}, {0, 0, -1, 0},
            {0, 0, 0, -1}, {1, 0, -1, 0}, {0, 1, 0, -1}, {0, 0, Integer.MAX_VALUE, 0}};
        for (int[] at : wrong) {
            CHECKS.thrown("no such cell", Checks.INDEX, () -> y.range(0, at[0], at[1], at[2], at[3]));
        }
        CHECKS.thrown("no such grid", Checks.INDEX, () -> y.range(1, 1, 1, 0, 0));
        CHECKS.thrown("toRow below row", Checks.ARGUMENT, () -> y.range(0, 1, 0, 0, 2));
        CHECKS.thrown("toColumn below column", Checks.ARGUMENT, () -> y.range(0, 0, 2, 2, 1));
        CHECKS.due("the first node", y.range(0, 2, 2, 2, 2), 0);
        due("a row of one value", z -> Make.fold(z, Make.FOLD_COUNT, Make.row(z, 5)), "1");
        due("is that value", z -> Make.row(z, 5), "5");
        due("row by row", z -> {
            Make.row(z, 1, 3);
            z.set(0, 0, 2, 0);
            z.set(0, 1, 2, 2);
            return z.range(0, 0, 2, 1, 3);
        }, "0 1 2 3");
        due("a row of 50", z -> {
            z.grid(10, 5);
            for (int i = 0; i < 50; i++) {
                z.set(1, i / 5, i % 5, i);
            }
            return Make.fold(z, Make.FOLD_SUM, Make.list(z, 1, z.range(1, 0, 0, 9, 4)));
        }, "1225");
        due("each as CELL tells", z -> {
            z.put(0, 0, 0, Make.upTo(z, 3));
            return z.range(0, 0, 0, 3, 0);
        }, "1 2 3 -");
    }

    /** The value of a node, put into the cell (0, 1). */
    private static String value(NoteDocument x, int node) {
        x.put(0, 0, 1, node);
        return Make.shown(x, 0, 0, 1);
    }

    private static void leaves() {
        CHECKS.promise("Promise 12");
        NoteDocument x = new NoteDocument();
        x.grid(1, 1);
        x.grid(1, 5);
        x.note();
        int[][] wrong = {{-1, 0}, {7, 0}, {Integer.MIN_VALUE, 0}, {0, -1}, {0, 1}, {0, 15}, {0, 20}, {0, -10},
            {0, Integer.MAX_VALUE}, {0, Integer.MIN_VALUE}, {1, -1}, {1, 6}, {2, -1}, {2, 2}, {3, -1}, {3, 1},
            {6, -1}, {6, 10}, {6, Integer.MIN_VALUE}};
        for (int[] leaf : wrong) {
            CHECKS.thrown("leaf " + leaf[0] + " of " + leaf[1], Checks.ARGUMENT, () -> x.leaf(leaf[0], leaf[1]));
        }
        int[][] right = {{0, 0}, {0, 10}, {0, 14}, {1, 0}, {1, 5}, {2, 0}, {2, 1}, {3, 0}, {4, -1},
            {4, Integer.MAX_VALUE}, {5, Integer.MIN_VALUE}, {5, 7}, {6, 0}, {6, 9}};
        for (int i = 0; i < right.length; i++) {
            CHECKS.due("leaf " + right[i][0] + " of " + right[i][1], x.leaf(right[i][0], right[i][1]), i);
        }
        for (int first = 1; first <= 5; first++) {
            columns(new int[] {first, 5, 1, 3});
            columns(new int[] {1, 2, first, 6 - first});
        }
        due("COLUMN", y -> {
            Make.row(y, 4, 5);
            return Make.fold(y, Make.FOLD_SUM, y.leaf(0, 3));
        }, "9");
        due("COLUMN of all rows", y -> Make.orElse(y, y.leaf(0, 2), y.number(1)), "- - - - - - - - - -");
        NoteDocument y = Make.document(9, 2);
        y.put(0, 0, 1, Make.fold(y, Make.FOLD_COUNT, Make.two(y, Make.ADD, y.leaf(0, 0), y.number(0))));
        CHECKS.due("COLUMN of nine", y.value(0, 0, 1), 9);
        y.insert(0, 9);
        CHECKS.due("COLUMN with a row that came", y.value(0, 0, 1), 10);
        y.remove(0, 3);
        y.remove(0, 3);
        CHECKS.due("COLUMN without those that went", y.value(0, 0, 1), 8);
        due("GIVEN 0 elsewhere", z -> z.leaf(2, 0), "!8");
        due("GIVEN 1 elsewhere", z -> z.leaf(2, 1), "!8");
        due("LENGTH of an empty note", z -> z.leaf(3, z.note()), "0");
        due("CLOCK", z -> z.leaf(4, 0), "0");
        due("COUNTER", z -> z.leaf(5, 0), "0");
        due("DRAW of the greatest seed", z -> {
            z.tick(1000000, 1000000);
            return z.leaf(6, 9);
        }, "" + 7919L * ((31L * 1000000 + 1) * 31 + 9) % 1000);
        due("DRAW of a seed of 0 behind a tick", z -> {
            z.tick(3, 0);
            return z.leaf(6, 0);
        }, "" + 7919L * 31 % 1000);
    }

    /** COLUMN of each grid and column, and of none behind the last one. */
    private static void columns(int[] many) {
        NoteDocument x = new NoteDocument();
        for (int grid = 0; grid < 4; grid++) {
            x.grid(2, many[grid]);
            for (int column = 0; column < many[grid]; column++) {
                x.set(grid, 1, column, 10 * grid + column);
            }
        }
        for (int grid = 0; grid < 4; grid++) {
            for (int column = 0; column < 10; column++) {
                int of = 10 * grid + column;
                if (column >= many[grid]) {
                    CHECKS.thrown("no such column: " + of, Checks.ARGUMENT, () -> x.leaf(0, of));
                } else {
                    x.put(0, 0, 0, Make.item(x, x.leaf(0, of), x.number(2)));
                    CHECKS.due("COLUMN " + of, Make.shown(x, 0, 0, 0), of == 0 ? "!4" : "" + of);
                }
            }
        }
    }

    private static void nodes() {
        CHECKS.promise("Promise 13");
        NoteDocument x = Make.document(2, 2);
        x.number(0);
        int[][] wrong = {{-1, 0}, {8, 0}, {Integer.MAX_VALUE, 0}, {0, -1}, {0, 10}, {1, -1}, {1, 4}, {2, -1}, {2, 4},
            {4, -1}, {4, 1}, {5, -1}, {5, 4}, {6, -1}, {6, 4}, {4, Integer.MIN_VALUE}};
        for (int[] node : wrong) {
            CHECKS.thrown("kind and sign", Checks.ARGUMENT, () -> x.node(node[0], node[1], 0, 0));
            CHECKS.thrown("ahead of the parts", Checks.ARGUMENT, () -> x.node(node[0], node[1], -1, 9));
        }
        for (int kind = 0; kind < 8; kind++) {
            int of = kind;
            for (int part : new int[] {-1, 1, 150, Integer.MIN_VALUE, Integer.MAX_VALUE}) {
                CHECKS.thrown("first", Checks.INDEX, () -> x.node(of, 0, part, 0));
                if (kind != 1 && kind != 2) {
                    CHECKS.thrown("second", Checks.INDEX, () -> x.node(of, 0, 0, part));
                }
            }
        }
        int made = 1;
        for (int sign = 0; sign < 10; sign++) {
            CHECKS.due("TWO", x.node(0, sign, 0, 0), made++);
        }
        for (int sign = 0; sign < 4; sign++) {
            CHECKS.due("FOLD, second counts for nothing", x.node(1, sign, 0, Integer.MIN_VALUE), made++);
            CHECKS.due("LIST, second counts for nothing", x.node(2, sign, 0, 999), made++);
            CHECKS.due("CALL", x.node(5, sign, 0, 0), made++);
            CHECKS.due("EACH", x.node(6, sign, 0, 0), made++);
        }
        for (int sign : new int[] {-1, 0, 4, 10, Integer.MAX_VALUE}) {
            CHECKS.due("ITEM, sign counts for nothing", x.node(3, sign, 0, 0), made++);
            CHECKS.due("ELSE, sign counts for nothing", x.node(7, sign, 0, 0), made++);
        }
        for (int i = 1; i < 4; i++) {
            int grid = i;
            CHECKS.thrown("PICK of no grid", Checks.ARGUMENT, () -> x.node(4, grid, 0, 0));
            x.grid(1, 1);
            CHECKS.due("PICK of a grid", x.node(4, i, 0, 0), made++);
        }
    }

    private static void weights() {
        CHECKS.promise("Promises 13 and 14, weight");
        for (int weight = 38; weight <= 40; weight++) {
            NoteDocument x = new NoteDocument();
            int heavy = Make.weighing(x, weight);
            int leaf = x.number(0);
            CHECKS.due("of one part of " + weight, allowed(() -> x.node(1, 0, heavy, 0)), weight < 40);
            CHECKS.due("of one part of " + weight, allowed(() -> x.node(2, 1, heavy, 0)), weight < 40);
            for (int kind : new int[] {0, 3, 5, 6, 7}) {
                CHECKS.due("of two parts", allowed(() -> x.node(kind, 0, heavy, leaf)), weight < 39);
                CHECKS.due("of two parts", allowed(() -> x.node(kind, 0, leaf, heavy)), weight < 39);
            }
            CHECKS.due("of three parts", allowed(() -> x.when(heavy, leaf, leaf)), weight < 38);
        }
        NoteDocument x = Make.document(1, 1);
        int leaf = x.number(1);
        int most = Make.weighing(x, 37);
        CHECKS.due("of three parts", allowed(() -> x.when(leaf, most, leaf)));
        CHECKS.due("of three parts", allowed(() -> x.when(leaf, leaf, most)));
        int half = Make.weighing(x, 19);
        int more = Make.weighing(x, 20);
        CHECKS.due("a part counts each time", allowed(() -> Make.two(x, 0, half, half)));
        CHECKS.thrown("a part counts each time", Checks.STATE, () -> Make.two(x, 0, more, more));
        CHECKS.due("both count", allowed(() -> Make.two(x, 0, half, more)));
        int third = Make.weighing(x, 13);
        CHECKS.due("all three count", allowed(() -> x.when(third, third, third)));
        int fourteen = Make.weighing(x, 14);
        CHECKS.thrown("all three count", Checks.STATE, () -> x.when(third, third, fourteen));
        CHECKS.thrown("no such node ahead of that", Checks.INDEX, () -> Make.two(x, 0, more, -1));
        int row = Make.weighing(x, 38);
        x.put(0, 0, 0, x.node(1, 1, row, 0));
        CHECKS.due("39 are run", Make.shown(x, 0, 0, 0), "!6");
        due("forty levels", y -> {
            int list = Make.upTo(y, 3);
            for (int i = 0; i < 38; i++) {
                list = Make.list(y, 1, list);
            }
            return list;
        }, "1 2 3");
    }

    private static boolean allowed(Checks.Call call) {
        return Checks.outcome(call).startsWith("the answer");
    }

    /** The value of TWO of two numbers. */
    private static void two(String what, int sign, long first, long second, String want) {
        due(what, x -> Make.two(x, sign, x.number(first), x.number(second)), want);
    }

    private static void twos() {
        CHECKS.promise("TWO");
        two("adds", 0, MOST, 0, "" + MOST);
        two("adds", 0, MOST, 1, "!2");
        two("adds", 0, -MOST, -1, "!2");
        two("adds", 0, MOST, MOST, "!2");
        two("adds", 0, MOST, -MOST, "0");
        two("takes away", 1, -MOST, 0, "" + -MOST);
        two("takes away", 1, -MOST, 1, "!2");
        two("takes away", 1, MOST, -1, "!2");
        two("takes away", 1, MOST, MOST, "0");
        two("multiplies", 2, MOST, 1, "" + MOST);
        two("multiplies", 2, MOST, -1, "" + -MOST);
        two("multiplies", 2, MOST, 2, "!2");
        two("multiplies", 2, -MOST, MOST, "!2");
        two("a product that wraps around to 0", 2, 1L << 32, 1L << 32, "!2");
        two("a product that wraps around to a small number", 2, (1L << 32) + 1, 1L << 32, "!2");
        two("multiplies", 2, 31622776, 31622776, "" + 31622776L * 31622776);
        two("multiplies", 2, 31622777, 31622777, "!2");
        two("multiplies by 0", 2, -MOST, 0, "0");
        two("divides", 3, MOST, 1, "" + MOST);
        two("divides", 3, -MOST, -1, "" + MOST);
        two("divides", 3, 0, -5, "0");
        two("rounded down", 3, -1, MOST, "-1");
        two("rounded down", 3, 1, -MOST, "-1");
        two("rounded down", 3, -8, -3, "2");
        two("rounded down", 3, -9, 3, "-3");
        two("by 0", 3, 0, 0, "!1");
        two("by 0", 3, -MOST, 0, "!1");
        two("the rest", 4, -1, MOST, "" + (MOST - 1));
        two("the rest", 4, 1, -MOST, "" + (1 - MOST));
        two("the rest", 4, -8, -3, "-2");
        two("the rest", 4, 9, -3, "0");
        two("the rest by 0", 4, 0, 0, "!1");
        two("the lesser one", 5, -MOST, MOST, "" + -MOST);
        two("the lesser one", 5, 4, 4, "4");
        two("the greater one", 6, -MOST, MOST, "" + MOST);
        two("less", 7, 4, 4, "0");
        two("less", 7, 3, 4, "1");
        two("less", 7, 5, 4, "0");
        two("less", 7, -MOST, MOST, "1");
        two("the same", 8, MOST, MOST, "1");
        two("the same", 8, MOST, MOST - 1, "0");
        floats();
        rowsOfTwos();
        takenByTwos();
    }

    private static void floats() {
        two("by floats", 9, 7, 2, "3500");
        two("left out, not rounded", 9, 2, 3, "666");
        two("left out, not rounded down", 9, -2, 3, "-666");
        two("less than 1", 9, 1, 1001, "0");
        two("less than 1", 9, -1, 1001, "0");
        two("of 0", 9, 0, -3, "0");
        two("by 0", 9, 0, 0, "!1");
        two("by 0", 9, 5, 0, "!1");
        two("as floats, not exactly", 9, 16777217, 1, "16777216000");
        two("as floats, not exactly", 9, 123456789, 1000, "" + (long) ((float) 123456789 / 1000f * 1000f));
        two("out of range", 9, MOST, 1, "!2");
        two("out of range", 9, -MOST, 1, "!2");
        two("in range", 9, MOST, 1001, "" + (long) ((float) MOST / 1001f * 1000f));
        two("a float above the greatest number", 9, MOST, 1000, of((float) MOST / 1000f * 1000f));
        two("small ones", 9, 1, MOST, "0");
        two("the same", 9, MOST, MOST, "1000");
    }

    private static String of(float value) {
        long number = (long) value;
        return number > MOST ? "!2" : "" + number;
    }

    private static void rowsOfTwos() {
        due("a row and a number", x -> Make.two(x, 1, Make.upTo(x, 3), x.number(1)), "0 1 2");
        due("a number and a row", x -> Make.two(x, 1, x.number(1), Make.upTo(x, 3)), "0 -1 -2");
        due("two rows", x -> Make.two(x, 2, Make.upTo(x, 3), Make.upTo(x, 3)), "1 4 9");
        due("unlike lengths", x -> Make.two(x, 0, Make.upTo(x, 3), Make.upTo(x, 2)), "!7");
        due("a row of one value is a row", x -> Make.two(x, 0, Make.upTo(x, 1), Make.upTo(x, 2)), "!7");
        due("a row of one value is a row", x -> Make.two(x, 0, Make.upTo(x, 2), Make.upTo(x, 1)), "!7");
        due("rows of one value", x -> Make.two(x, 0, Make.upTo(x, 1), Make.upTo(x, 1)), "2");
        due("a row of one value and a number stay a row",
            x -> Make.fold(x, Make.FOLD_COUNT, Make.two(x, 0, Make.upTo(x, 1), x.number(4))), "1");
        due("errors where they come", x -> Make.two(x, 3, Make.upTo(x, 3), Make.two(x, 1, Make.upTo(x, 3), x.number(2))),
            "-1 !1 3");
        due("out of range where it comes", x -> Make.two(x, 0, Make.row(x, MOST, 1, -MOST), x.number(-1)),
            (MOST - 1) + " 0 !2");
        due("errors of both, the first part's first", x -> Make.two(x, 0, Make.flawed(x, 2, 1),
            Make.two(x, 0, Make.row(x, MOST, 5), x.number(1))), "!1 18");
        due("errors of both, the first part's first", x -> Make.two(x, 0,
            Make.two(x, 0, Make.row(x, MOST, 5), x.number(1)), Make.flawed(x, 2, 1)), "!2 18");
        due("empty ones are 0", x -> Make.two(x, 0, x.range(0, 4, 0, 6, 0), x.number(1)), "1 1 1");
        due("an empty value and a row", x -> Make.two(x, 1, Make.empty(x), Make.upTo(x, 2)), "-1 -2");
        due("an error that is no row", x -> Make.two(x, 0, Make.error(x), Make.upTo(x, 2)), "!1");
        due("an error that is no row", x -> Make.two(x, 0, Make.upTo(x, 2), Make.error(x)), "!1");
        due("it is the value ahead of those in the row", x -> Make.two(x, 0, Make.flawed(x, 2, 1), x.leaf(1, 0)), "!8");
        due("rows of 50", x -> {
            x.grid(10, 5);
            int row = x.range(1, 0, 0, 9, 4);
            int ones = Make.two(x, 0, row, x.number(1));
            return Make.fold(x, Make.FOLD_SUM, Make.two(x, 0, ones, ones));
        }, "100");
    }

    private static void takenByTwos() {
        for (int sign = 0; sign < 10; sign++) {
            int of = sign;
            due("the first part's error", x -> Make.two(x, of, x.leaf(2, 0), Make.error(x)), "!8");
            due("the second part's error", x -> Make.two(x, of, Make.error(x), x.leaf(2, 0)), "!1");
            due("the only error", x -> Make.two(x, of, x.number(0), x.leaf(2, 0)), "!8");
        }
        due("empty and empty", x -> Make.two(x, 8, Make.empty(x), Make.empty(x)), "1");
        due("empty is 0", x -> Make.two(x, 8, Make.empty(x), x.number(0)), "1");
        due("by what is empty", x -> Make.two(x, 3, x.number(1), Make.empty(x)), "!1");
        due("the error of a part that is taken first", x -> Make.two(x, 3, Make.error(x), x.number(0)), "!1");
        NoteDocument x = Make.document(3, 2);
        x.put(0, 0, 0, x.number(1));
        x.put(0, 1, 0, Make.two(x, 0, Make.error(x), Make.cell(x, 0, 0)));
        x.value(0, 1, 0);
        CHECKS.due("all parts are run, behind an error, too", x.runs(), 2);
    }

    private static void whens() {
        CHECKS.promise("Promise 14");
        NoteDocument x = new NoteDocument();
        x.number(0);
        for (int part : new int[] {-1, 1, 150, Integer.MIN_VALUE}) {
            CHECKS.thrown("first", Checks.INDEX, () -> x.when(part, 0, 0));
            CHECKS.thrown("second", Checks.INDEX, () -> x.when(0, part, 0));
            CHECKS.thrown("third", Checks.INDEX, () -> x.when(0, 0, part));
        }
        for (long number : new long[] {-MOST, -1, 1, MOST, 1L << 32}) {
            due("not 0", y -> y.when(y.number(number), y.number(5), Make.error(y)), "5");
        }
        due("0", y -> y.when(y.number(0), Make.error(y), y.number(6)), "6");
        due("empty is 0", y -> y.when(Make.empty(y), Make.error(y), y.number(6)), "6");
        due("an error", y -> y.when(Make.error(y), y.number(5), y.number(6)), "!1");
        due("a row", y -> y.when(Make.upTo(y, 2), y.number(5), y.number(6)), "!6");
        due("a row of one value", y -> y.when(Make.upTo(y, 1), y.number(5), y.number(6)), "!6");
        due("the second one as it is", y -> y.when(y.number(1), Make.upTo(y, 2), y.number(6)), "1 2");
        due("the third one as it is", y -> y.when(y.number(0), y.number(6), Make.empty(y)), "-");
        for (int number = 0; number < 3; number++) {
            NoteDocument y = Make.document(4, 2);
            y.put(0, 0, 0, y.number(3));
            y.put(0, 1, 0, y.number(4));
            int first = number < 2 ? y.number(number) : Make.error(y);
            y.put(0, 0, 1, y.when(first, Make.cell(y, 0, 0), Make.cell(y, 1, 0)));
            y.value(0, 0, 1);
            CHECKS.due("one of both is run, or none", y.runs(), number < 2 ? 2 : 1);
        }
    }

    private static void folds() {
        CHECKS.promise("FOLD");
        due("the sum to the edge", x -> Make.fold(x, 0, Make.row(x, MOST, 1, -1)), "" + MOST);
        due("the sum out of range", x -> Make.fold(x, 0, Make.row(x, MOST, 1)), "!2");
        due("the sum out of range", x -> Make.fold(x, 0, Make.row(x, -MOST, -1)), "!2");
        due("the sum of ten of the greatest", x -> Make.fold(x, 0, Make.row(x, MOST, MOST, MOST, MOST, MOST, MOST,
            MOST, MOST, MOST, MOST)), "!2");
        due("how many", x -> Make.fold(x, 1, Make.row(x, MOST, MOST, 0)), "3");
        due("the greatest one", x -> Make.fold(x, 2, Make.row(x, -MOST, -MOST)), "" + -MOST);
        due("the greatest one", x -> Make.fold(x, 2, Make.row(x, -3, -1, -2)), "-1");
        due("the least one", x -> Make.fold(x, 3, Make.row(x, MOST, MOST)), "" + MOST);
        due("the least one", x -> Make.fold(x, 3, Make.row(x, 3, 1, 2)), "1");
        String[] ofOne = {"7", "1", "7", "7"};
        String[] ofNone = {"0", "0", "!8", "!8"};
        for (int i = 0; i < 4; i++) {
            int sign = i;
            due("of one " + i, x -> Make.fold(x, sign, Make.row(x, 7)), ofOne[i]);
            due("of none " + i, x -> Make.fold(x, sign, x.range(0, 3, 0, 4, 2)), ofNone[i]);
            due("of one that is empty " + i, x -> Make.fold(x, sign, x.range(0, 3, 0, 3, 0)), ofNone[i]);
            due("of a number " + i, x -> Make.fold(x, sign, x.number(1)), "!6");
            due("of what is empty " + i, x -> Make.fold(x, sign, Make.empty(x)), "!6");
            due("of an error " + i, x -> Make.fold(x, sign, Make.error(x)), "!1");
            due("of a row with an error " + i, x -> Make.fold(x, sign, Make.flawed(x, 5, 5)), "!1");
            due("the first error in it " + i, x -> Make.fold(x, sign, Make.two(x, 0, Make.flawed(x, 4, 3),
                Make.row(x, 0, -MOST, 0, 0))), "!2");
        }
    }

    private static void lists() {
        CHECKS.promise("LIST");
        due("of 1", x -> Make.upTo(x, 1), "1");
        due("of 1 is a row", x -> Make.fold(x, 1, Make.upTo(x, 1)), "1");
        due("of 10", x -> Make.upTo(x, 10), "1 2 3 4 5 6 7 8 9 10");
        due("of 11 finds no room", x -> Make.upTo(x, 11), "!5");
        due("of 20", x -> Make.fold(x, 0, Make.upTo(x, 20)), "210");
        for (long number : new long[] {0, -1, 21, MOST, -MOST, (1L << 32) + 1}) {
            due("of " + number, x -> Make.upTo(x, number), "!2");
        }
        due("of what is empty", x -> Make.list(x, 0, Make.empty(x)), "!2");
        due("of a row", x -> Make.list(x, 0, Make.upTo(x, 1)), "!6");
        due("of an error", x -> Make.list(x, 0, Make.error(x)), "!1");
        for (int i = 1; i < 4; i++) {
            int sign = i;
            due("of a number " + i, x -> Make.list(x, sign, x.number(1)), "!6");
            due("of what is empty " + i, x -> Make.list(x, sign, Make.empty(x)), "!6");
            due("of an error " + i, x -> Make.list(x, sign, Make.error(x)), "!1");
            due("of one " + i, x -> Make.list(x, sign, Make.row(x, 7)), "7");
            due("of one is a row " + i, x -> Make.fold(x, 1, Make.list(x, sign, Make.row(x, 7))), "1");
        }
        due("reversed", x -> Make.list(x, 1, x.range(0, 0, 3, 2, 3)), "- - -");
        due("reversed with errors", x -> Make.list(x, 1, Make.flawed(x, 3, 1)), "6 12 !1");
        due("rising", x -> Make.list(x, 2, Make.row(x, MOST, 3, -MOST, 3, 0)), -MOST + " 0 3 3 " + MOST);
        due("rising, falling ones", x -> Make.list(x, 2, Make.list(x, 1, Make.upTo(x, 10))), "1 2 3 4 5 6 7 8 9 10");
        due("rising, the first error", x -> Make.list(x, 2, Make.flawed(x, 3, 3)), "!1");
        due("above 0", x -> Make.list(x, 3, Make.row(x, 0, 1, -1, MOST, 1)), "1 " + MOST + " 1");
        due("above 0, the first error", x -> Make.list(x, 3, Make.flawed(x, 3, 3)), "!1");
        due("none above 0", x -> Make.list(x, 3, Make.row(x, 0, -1)), "!8");
        due("no numbers", x -> Make.list(x, 2, x.range(0, 5, 0, 6, 0)), "!8");
        due("no numbers above 0", x -> Make.list(x, 3, x.range(0, 5, 0, 6, 0)), "!8");
    }

    private static void itemsAndPicks() {
        CHECKS.promise("ITEM");
        String[] items = {"!8", "!8", "1", "2", "3", "!8"};
        for (int i = -1; i < 5; i++) {
            int place = i;
            due("at " + i, x -> Make.item(x, Make.upTo(x, 3), x.number(place)), items[i + 1]);
        }
        for (long place : new long[] {(1L << 32) + 1, MOST, -MOST}) {
            due("at " + place, x -> Make.item(x, Make.upTo(x, 3), x.number(place)), "!8");
        }
        due("at what is empty", x -> Make.item(x, Make.upTo(x, 3), Make.empty(x)), "!8");
        due("at a row", x -> Make.item(x, Make.upTo(x, 3), Make.upTo(x, 1)), "!6");
        due("at an error", x -> Make.item(x, Make.upTo(x, 3), Make.error(x)), "!1");
        due("of a number", x -> Make.item(x, x.number(1), x.number(1)), "!6");
        due("of what is empty", x -> Make.item(x, Make.empty(x), x.number(1)), "!6");
        due("of an error", x -> Make.item(x, Make.error(x), x.leaf(1, 0)), "!1");
        due("an error in the row", x -> Make.item(x, Make.flawed(x, 3, 2), x.number(2)), "!1");
        due("beside an error in the row", x -> Make.item(x, Make.flawed(x, 3, 2), x.number(3)), "12");
        due("what is empty", x -> Make.item(x, x.range(0, 5, 0, 6, 0), x.number(2)), "-");

        CHECKS.promise("PICK");
        long[][] none = {{-1, 0}, {10, 0}, {0, -1}, {0, 5}, {1L << 32, 0}, {0, 1L << 32}, {MOST, 0}, {0, -MOST}};
        for (long[] at : none) {
            due("none", x -> Make.pick(x, 0, x.number(at[0]), x.number(at[1])), "!3");
        }
        due("the last cell", x -> {
            x.set(0, 9, 4, 8);
            return Make.pick(x, 0, x.number(9), x.number(4));
        }, "8");
        due("empty is 0", x -> {
            x.set(0, 0, 0, 8);
            return Make.pick(x, 0, Make.empty(x), Make.empty(x));
        }, "8");
        due("of a row its first one", x -> {
            x.put(0, 0, 0, Make.upTo(x, 3));
            return Make.pick(x, 0, x.number(0), x.number(0));
        }, "1");
        due("the first error", x -> Make.pick(x, 0, Make.error(x), x.leaf(1, 0)), "!1");
        due("the second error, ahead of there being none", x -> Make.pick(x, 0, x.number(99), Make.error(x)), "!1");
        due("a row", x -> Make.pick(x, 0, x.number(0), Make.upTo(x, 2)), "!6");
        due("a row ahead of an error", x -> Make.pick(x, 0, Make.upTo(x, 2), Make.error(x)), "!6");
        NoteDocument x = Make.document(2, 2);
        x.put(0, 0, 0, Make.pick(x, 0, x.number(2), x.number(1)));
        CHECKS.due("a row too far", Make.shown(x, 0, 0, 0), "!3");
        x.insert(0, 2);
        CHECKS.due("a row that came", Make.shown(x, 0, 0, 0), "-");
        x.undo();
        CHECKS.due("and went", Make.shown(x, 0, 0, 0), "!3");
    }

    private static void functions() {
        CHECKS.promise("CALL");
        long[][] right = {{0, 0}, {12, 0}, {0, 12}, {12, 12}};
        for (long[] given : right) {
            due("in range", x -> ofGivens(x, given[0], given[1]), "" + (given[0] * 100 + given[1]));
        }
        long[][] wrong = {{13, 0}, {0, 13}, {-1, 0}, {0, -1}, {1L << 32, 0}, {0, (1L << 32) + 3}, {MOST, MOST}};
        for (long[] given : wrong) {
            due("out of range", x -> ofGivens(x, given[0], given[1]), "!2");
        }
        due("empty is 0", x -> {
            define(x);
            return Make.call(x, 3, Make.empty(x), Make.empty(x));
        }, "0");
        due("the first error", x -> Make.call(x, 3, Make.error(x), x.leaf(1, 0)), "!1");
        due("an error ahead of what is out of range", x -> Make.call(x, 3, x.number(99), Make.error(x)), "!1");
        due("a row", x -> Make.call(x, 3, Make.upTo(x, 2), x.number(0)), "!6");
        due("out of range ahead of no body", x -> Make.call(x, 0, x.number(13), x.number(0)), "!2");
        due("no body", x -> Make.call(x, 0, x.number(12), x.number(12)), "!8");

        CHECKS.promise("EACH");
        due("of each value", x -> {
            define(x);
            return Make.each(x, 3, Make.row(x, 0, 12, 13, -1), x.number(7));
        }, "7 1207 !2 !2");
        due("empty ones are 0", x -> {
            define(x);
            return Make.each(x, 3, x.range(0, 5, 0, 6, 0), Make.empty(x));
        }, "0 0");
        due("errors stand in it", x -> {
            define(x);
            return Make.each(x, 3, Make.flawed(x, 3, 2), x.number(1));
        }, "!2 !1 1201");
        due("the number out of range", x -> Make.each(x, 3, Make.upTo(x, 2), x.number(13)), "!2 !2");
        due("no body", x -> Make.each(x, 3, Make.upTo(x, 2), x.number(0)), "!8 !8");
        due("of no row", x -> Make.each(x, 3, x.number(1), x.number(0)), "!6");
        due("of what is empty", x -> Make.each(x, 3, Make.empty(x), x.number(0)), "!6");
        due("of an error", x -> Make.each(x, 3, Make.error(x), x.leaf(1, 0)), "!1");
        due("with an error", x -> Make.each(x, 3, Make.upTo(x, 2), Make.error(x)), "!1");
        due("with a row", x -> Make.each(x, 3, Make.upTo(x, 2), Make.upTo(x, 1)), "!6");
        due("a row as such a value, of one value, too", x -> {
            x.define(1, Make.list(x, 0, x.leaf(2, 0)));
            return Make.each(x, 1, Make.upTo(x, 3), x.number(0));
        }, "!6 !6 !6");
        due("of one value is a row", x -> {
            define(x);
            return Make.fold(x, 1, Make.each(x, 3, Make.upTo(x, 1), x.number(0)));
        }, "1");
        due("what is empty", x -> {
            x.define(1, Make.empty(x));
            return Make.each(x, 1, Make.upTo(x, 2), x.number(0));
        }, "- -");
        due("of 50", x -> {
            x.grid(10, 5);
            define(x);
            return Make.fold(x, 0, Make.each(x, 3, x.range(1, 0, 0, 9, 4), x.number(2)));
        }, "100");

        CHECKS.promise("ELSE");
        due("of an error", x -> Make.orElse(x, Make.error(x), x.number(2)), "2");
        due("of two errors", x -> Make.orElse(x, Make.error(x), x.leaf(1, 0)), "!8");
        due("of a number", x -> Make.orElse(x, x.number(0), x.number(2)), "0");
        due("of what is empty", x -> Make.orElse(x, Make.empty(x), x.number(2)), "-");
        due("of a row with an error", x -> Make.orElse(x, Make.flawed(x, 2, 1), x.number(2)), "!1 12");
        NoteDocument x = Make.document(3, 2);
        x.put(0, 0, 0, x.number(1));
        x.put(0, 1, 0, Make.orElse(x, x.number(1), Make.cell(x, 0, 0)));
        x.value(0, 1, 0);
        CHECKS.due("the second one is run behind an error alone", x.runs(), 1);
    }

    /** Lets the function 3 be 100 times the first one and the second one. */
    private static void define(NoteDocument x) {
        int first = Make.two(x, Make.MULTIPLY, x.leaf(2, 0), x.number(100));
        x.define(3, Make.two(x, Make.ADD, first, x.leaf(2, 1)));
    }

    private static int ofGivens(NoteDocument x, long first, long second) {
        define(x);
        return Make.call(x, 3, x.number(first), x.number(second));
    }

    private static void torn() {
        CHECKS.promise("Promise 15");
        NoteDocument x = Make.document(3, 2);
        CHECKS.due("no nodes", x.torn(), 0);
        int cell = x.cell(0, 1, 0, false);
        int spill = x.cell(0, 1, 1, true);
        int range = x.range(0, 1, 0, 1, 1);
        int sum = Make.fold(x, 0, range);
        CHECKS.due("none", x.torn(), 0);
        x.remove(0, 1);
        CHECKS.due("those that refer, not those that are made of them", x.torn(), 3);
        for (int node : new int[] {cell, spill, range, sum}) {
            x.put(0, 0, 0, node);
            CHECKS.due("a torn node has the error 3", Make.shown(x, 0, 0, 0), "!3");
            CHECKS.due("which arose in the cell", x.through(0, 0, 0), 1);
        }
        x.remove(0, 1);
        CHECKS.due("torn once", x.torn(), 3);
        x.insert(0, 1);
        CHECKS.due("torn for ever", x.torn(), 3);
        NoteDocument y = Make.document(2, 1);
        y.cell(0, 0, 0, false);
        y.remove(0, 0);
        y.undo();
        CHECKS.due("undone", y.torn(), 0);
    }

    public static void main(String[] args) {
        numbers();
        mostNodes();
        references();
        leaves();
        nodes();
        weights();
        twos();
        whens();
        folds();
        lists();
        itemsAndPicks();
        functions();
        torn();
        CHECKS.end();
    }
}
