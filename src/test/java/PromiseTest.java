/** At least one test for each promise of the document: ordinary inputs, the edges it names, wrong inputs. */
public final class PromiseTest {
    private static final long MOST = 1000000000000000L;
    private static final Class<?> INDEX = IndexOutOfBoundsException.class;
    private static final Class<?> ARGUMENT = IllegalArgumentException.class;
    private static final Class<?> STATE = IllegalStateException.class;

    // The kinds of node().
    private static final int TWO = 0;
    private static final int FOLD = 1;
    private static final int LIST = 2;
    private static final int ITEM = 3;
    private static final int PICK = 4;
    private static final int CALL = 5;
    private static final int EACH = 6;
    private static final int ELSE = 7;

    private static int passed = 0;
    private static int failed = 0;
    private static String promise = "";

    private interface Call {
        Object answer();
    }

    private interface Step {
        void go();
    }

    private static void due(String what, long got, long want) {
        if (got == want) {
            passed++;
        } else {
            failed++;
            System.out.println(promise + ": " + what + " answered " + got + ", due is " + want);
        }
    }

    private static void due(String what, boolean isSo) {
        due(what, isSo ? 1 : 0, 1);
    }

    private static void thrown(String what, Class<?> type, Call call) {
        String got;
        try {
            got = "answer " + call.answer();
        } catch (RuntimeException e) {
            got = e.getClass().getName();
        }
        if (got.equals(type.getName())) {
            passed++;
        } else {
            failed++;
            System.out.println(promise + ": " + what + " came to " + got + ", due is " + type.getName());
        }
    }

    private static void thrownBy(String what, Class<?> type, Step step) {
        thrown(what, type, () -> {
            step.go();
            return "";
        });
    }

    private static void promise(String name) {
        promise = name;
    }

    private static NoteDocument document(int rows, int columns) {
        NoteDocument x = new NoteDocument();
        x.grid(rows, columns);
        return x;
    }

    /** Nodes until there are 150. */
    private static void fill(NoteDocument x, int nodes) {
        for (int i = nodes; i < 150; i++) {
            x.number(i);
        }
    }

    /** A cell whose formula divides by 0. */
    private static void breakCell(NoteDocument x, int row, int column) {
        int zero = x.number(0);
        x.put(0, row, column, x.node(TWO, 3, zero, zero));
    }

    private static void newObject() {
        promise("Promise 1");
        NoteDocument x = new NoteDocument();
        thrown("rows(0)", INDEX, () -> x.rows(0));
        thrown("length(0)", INDEX, () -> x.length(0));
        thrown("undo", STATE, x::undo);
        due("runs", x.runs(), 0);
        due("calls", x.calls(), 0);
        due("torn", x.torn(), 0);
        x.grid(3, 2);
        x.put(0, 0, 0, x.leaf(4, 0));
        due("the time", x.value(0, 0, 0), 0);
        x.put(0, 1, 0, x.leaf(5, 0));
        due("the counter", x.value(0, 1, 0), 0);
        x.put(0, 2, 0, x.leaf(6, 3));
        due("a draw with the seed 0", x.value(0, 2, 0), 7919 * 3 % 1000);
        due("setWay", x.setWay(1), 0);
    }

    private static void grids() {
        promise("Promise 2");
        NoteDocument x = new NoteDocument();
        thrown("grid(0, 1)", ARGUMENT, () -> x.grid(0, 1));
        thrown("grid(11, 1)", ARGUMENT, () -> x.grid(11, 1));
        thrown("grid(1, 0)", ARGUMENT, () -> x.grid(1, 0));
        thrown("grid(1, 6)", ARGUMENT, () -> x.grid(1, 6));
        due("grid(1, 1)", x.grid(1, 1), 0);
        due("grid(10, 5)", x.grid(10, 5), 1);
        due("grid(2, 3)", x.grid(2, 3), 2);
        due("grid(3, 2)", x.grid(3, 2), 3);
        thrown("a fifth grid", STATE, () -> x.grid(1, 1));
        thrown("a column of a fifth grid", ARGUMENT, () -> x.leaf(0, 40));
        thrown("PICK of a fifth grid", ARGUMENT, () -> x.node(PICK, 4, 0, 0));
        thrown("a fifth grid out of range", ARGUMENT, () -> x.grid(1, 6));
        NoteDocument y = document(2, 2);
        y.set(0, 0, 0, 1);
        y.grid(4, 1);
        y.undo();
        due("undo leaves grids", y.rows(1), 4);

        promise("Promise 3");
        due("rows(0)", x.rows(0), 1);
        due("rows(1)", x.rows(1), 10);
        thrown("rows(-1)", INDEX, () -> x.rows(-1));
        thrown("rows(4)", INDEX, () -> x.rows(4));
        x.insert(0, 0);
        due("rows behind an insert", x.rows(0), 2);
    }

    private static void contents() {
        promise("Promise 4");
        NoteDocument x = document(3, 2);
        x.set(0, 1, 1, -MOST);
        due("value", x.value(0, 1, 1), -MOST);
        x.set(0, 1, 1, MOST);
        due("value", x.value(0, 1, 1), MOST);
        thrownBy("too large", ARGUMENT, () -> x.set(0, 0, 0, MOST + 1));
        thrownBy("too small", ARGUMENT, () -> x.set(0, 0, 0, -MOST - 1));
        thrownBy("no such row and too large", INDEX, () -> x.set(0, 3, 0, MOST + 1));
        thrownBy("no such column", INDEX, () -> x.set(0, 0, 2, 1));
        thrownBy("no such grid", INDEX, () -> x.set(1, 0, 0, 1));
        thrownBy("a row below 0", INDEX, () -> x.set(0, -1, 0, 1));
        due("undo", x.undo(), 1);
        due("value behind undo", x.value(0, 1, 1), -MOST);
        int five = x.number(5);
        x.put(0, 0, 0, five);
        x.hold(0, 0, 0, 7);
        x.set(0, 0, 0, 8);
        x.put(0, 0, 0, five);
        due("set holds no more", x.value(0, 0, 0), 5);

        promise("Promise 5");
        x.hold(0, 0, 0, 7);
        due("held", x.value(0, 0, 0), 7);
        x.put(0, 0, 0, five);
        due("put holds no more", x.value(0, 0, 0), 5);
        thrownBy("no such node", INDEX, () -> x.put(0, 0, 0, 1));
        thrownBy("no such node", INDEX, () -> x.put(0, 0, 0, -1));
        thrownBy("no such cell", INDEX, () -> x.put(0, 0, 2, five));
        x.set(0, 2, 0, 1);
        x.overlay(0, 0, 2, 0, 9);
        x.set(0, 2, 0, 2);
        due("set leaves scenarios", x.valueIn(0, 0, 2, 0), 9);
        x.put(0, 2, 0, five);
        due("put drops scenarios", x.drop(0), 0);
        int runs = x.runs();
        x.value(0, 2, 0);
        x.put(0, 2, 0, five);
        x.value(0, 2, 0);
        due("the same formula is not forgotten", x.runs(), runs + 1);
        x.put(0, 2, 0, x.number(6));
        x.put(0, 2, 0, five);
        x.value(0, 2, 0);
        due("another formula forgets", x.runs(), runs + 2);

        promise("Promise 6");
        x.set(0, 2, 1, 4);
        x.overlay(1, 0, 2, 1, 9);
        due("a number", x.erase(0, 2, 1), 1);
        due("nothing", x.erase(0, 2, 1), 0);
        x.set(0, 2, 1, 4);
        due("erase drops scenarios", x.valueIn(1, 0, 2, 1), 4);
        x.hold(0, 0, 0, 7);
        due("a formula", x.erase(0, 0, 0), 2);
        due("kind", x.kind(0, 0, 0), 0);
        x.put(0, 0, 0, five);
        due("erase holds no more", x.value(0, 0, 0), 5);
        thrown("no such cell", INDEX, () -> x.erase(0, 3, 0));
        x.undo();
        x.undo();
        due("undo", x.value(0, 0, 0), 7);
    }

    private static void held() {
        promise("Promise 7");
        NoteDocument x = document(4, 2);
        x.set(0, 0, 0, 1);
        int first = x.cell(0, 0, 0, false);
        x.put(0, 1, 0, first);
        due("hold", x.hold(0, 1, 0, -MOST));
        due("value", x.value(0, 1, 0), -MOST);
        due("hold no more, first counts for nothing", !x.hold(0, 1, 0, MOST + 1));
        due("value", x.value(0, 1, 0), 1);
        thrown("first too large", ARGUMENT, () -> x.hold(0, 1, 0, MOST + 1));
        thrown("first too large, and no formula", ARGUMENT, () -> x.hold(0, 0, 0, MOST + 1));
        thrown("a number", STATE, () -> x.hold(0, 0, 0, 1));
        thrown("nothing", STATE, () -> x.hold(0, 3, 0, 1));
        thrown("no such cell", INDEX, () -> x.hold(0, 4, 0, MOST + 1));
        int three = x.number(3);
        x.put(0, 1, 1, x.node(LIST, 0, three, 0));
        due("spilled", x.value(0, 2, 1), 2);
        x.hold(0, 1, 1, 6);
        due("what is held", x.value(0, 1, 1), 6);
        due("it spills nowhere", x.kind(0, 2, 1), 0);
        due("spills", x.spills(0, 1, 1), 1);
        x.undo();
        due("undo", x.value(0, 2, 1), 2);

        promise("Promise 8");
        NoteDocument y = document(5, 2);
        int one = y.number(1);
        int b = y.cell(0, 1, 0, false);
        int a = y.cell(0, 0, 0, false);
        y.put(0, 0, 0, y.node(TWO, 0, b, one));
        y.put(0, 1, 0, a);
        y.hold(0, 0, 0, 10);
        y.hold(0, 1, 0, 20);
        due("one round", y.rounds(1), 1);
        due("all at once", y.value(0, 0, 0), 21);
        due("all at once", y.value(0, 1, 0), 10);
        due("runs", y.runs(), 2);
        due("bound", y.rounds(50), 50);
        thrown("rounds(0)", ARGUMENT, () -> y.rounds(0));
        thrown("rounds(51)", ARGUMENT, () -> y.rounds(51));
        y.undo();
        due("undo", y.value(0, 0, 0), 21);
        NoteDocument z = document(5, 2);
        int most = z.number(4);
        int self = z.cell(0, 0, 0, false);
        z.put(0, 0, 0, z.node(TWO, 5, most, z.node(TWO, 0, self, z.number(1))));
        z.hold(0, 0, 0, 0);
        due("until none changes", z.rounds(50), 4);
        due("held", z.value(0, 0, 0), 4);
        due("none changes", z.rounds(5), 0);
        z.put(0, 0, 0, z.cell(0, 4, 1, false));
        z.hold(0, 0, 0, 5);
        due("empty", z.rounds(5), 1);
        due("empty as 0", z.value(0, 0, 0), 0);
        z.put(0, 0, 0, z.node(TWO, 3, most, z.number(0)));
        z.hold(0, 0, 0, 5);
        due("an error", z.rounds(5), 0);
        due("it stays", z.value(0, 0, 0), 5);
        z.put(0, 0, 0, z.node(LIST, 0, most, 0));
        z.hold(0, 0, 0, 5);
        due("a row", z.rounds(5), 0);
        due("it stays", z.value(0, 0, 0), 5);
        due("no held cells", document(1, 1).rounds(1), 0);
        z.put(0, 0, 1, z.number(6));
        z.put(0, 1, 1, z.cell(0, 0, 1, false));
        z.hold(0, 0, 1, 5);
        due("who reads it gets what is held", z.value(0, 1, 1), 5);
        z.rounds(1);
        due("what is held has changed", z.value(0, 1, 1), 6);
    }

    private static void leaves() {
        promise("Promise 9");
        NoteDocument x = document(4, 2);
        due("number", x.number(MOST), 0);
        due("number", x.number(-MOST), 1);
        thrown("too large", ARGUMENT, () -> x.number(MOST + 1));
        x.put(0, 0, 0, 1);
        due("value", x.value(0, 0, 0), -MOST);
        fill(x, 2);
        thrown("150 nodes", STATE, () -> x.number(1));
        thrown("150 nodes, too large", ARGUMENT, () -> x.number(MOST + 1));

        promise("Promise 10");
        thrown("150 nodes", STATE, () -> x.cell(0, 0, 0, false));
        thrown("150 nodes, no such cell", INDEX, () -> x.cell(0, 0, 2, true));
        NoteDocument y = document(4, 2);
        int three = y.number(3);
        y.put(0, 0, 0, y.node(LIST, 0, three, 0));
        y.put(0, 0, 1, y.node(FOLD, 0, y.cell(0, 0, 0, true), 0));
        due("a row as a row", y.value(0, 0, 1), 6);
        y.put(0, 0, 1, y.cell(0, 0, 0, false));
        due("of a row its first one", y.spills(0, 0, 1), 1);
        y.put(0, 0, 1, y.cell(0, 2, 0, true));
        due("SPILL of what is spilled into", y.value(0, 0, 1), 3);
        due("of what is below", y.kind(0, 3, 0), 0);
        thrown("no such cell", INDEX, () -> y.cell(0, 4, 0, true));

        promise("Promise 11");
        thrown("150 nodes", STATE, () -> x.range(0, 0, 0, 0, 0));
        thrown("no such cell", INDEX, () -> x.range(0, 4, 0, 0, 0));
        thrown("no such cell of both", INDEX, () -> x.range(0, 1, 0, 0, 2));
        thrown("toRow below row", ARGUMENT, () -> x.range(0, 1, 0, 0, 1));
        thrown("toColumn below column", ARGUMENT, () -> x.range(0, 1, 1, 2, 0));
        NoteDocument z = document(3, 3);
        for (int i = 0; i < 4; i++) {
            z.set(0, i / 2, i % 2, i + 1);
        }
        int row = z.range(0, 0, 0, 1, 1);
        z.put(0, 0, 2, z.node(LIST, 1, row, 0));
        due("row by row", z.value(0, 0, 2), 5);
        z.put(0, 0, 2, z.node(ITEM, 0, row, z.number(3)));
        due("row by row", z.value(0, 0, 2), 3);
        z.put(0, 0, 2, z.node(FOLD, 1, z.range(0, 2, 0, 2, 1), 0));
        due("empty ones are no numbers", z.value(0, 0, 2), 0);

        promise("Promise 12");
        thrown("150 nodes", STATE, () -> x.leaf(4, 0));
        thrown("kind", ARGUMENT, () -> x.leaf(7, 0));
        thrown("kind", ARGUMENT, () -> x.leaf(-1, 0));
        thrown("no such grid", ARGUMENT, () -> z.leaf(0, 10));
        thrown("no such column", ARGUMENT, () -> z.leaf(0, 3));
        thrown("no such column", ARGUMENT, () -> z.leaf(0, -1));
        thrown("no such name", ARGUMENT, () -> z.leaf(1, 6));
        thrown("no such given thing", ARGUMENT, () -> z.leaf(2, 2));
        thrown("no such note", ARGUMENT, () -> z.leaf(3, 0));
        thrown("no such draw", ARGUMENT, () -> z.leaf(6, 10));
        z.put(0, 0, 2, z.node(FOLD, 0, z.leaf(0, 1), 0));
        due("COLUMN", z.value(0, 0, 2), 6);
        z.put(0, 0, 2, z.leaf(1, 5));
        due("NAME of none", z.value(0, 0, 2), 8);
        due("it has come through the cell alone", z.through(0, 0, 2), 1);
        z.put(0, 0, 2, z.leaf(2, 1));
        due("GIVEN elsewhere", z.value(0, 0, 2), 8);
        z.note();
        z.say(0, 7);
        z.put(0, 0, 2, z.leaf(3, 0));
        due("LENGTH", z.value(0, 0, 2), 7);
        z.tick(77, 5);
        z.put(0, 0, 2, z.leaf(4, -9));
        due("CLOCK", z.value(0, 0, 2), 77);
        z.put(0, 0, 2, z.leaf(5, 99));
        due("COUNTER", z.value(0, 0, 2), 1);
        z.put(0, 0, 2, z.leaf(6, 9));
        due("DRAW", z.value(0, 0, 2), 7919L * ((31 * 5 + 1) * 31 + 9) % 1000);
    }

    /** The value of TWO of two numbers; an error as its kind, below 0. */
    private static long two(int sign, long first, long second) {
        NoteDocument x = document(1, 1);
        x.put(0, 0, 0, x.node(TWO, sign, x.number(first), x.number(second)));
        return x.kind(0, 0, 0) == 2 ? -x.value(0, 0, 0) : x.value(0, 0, 0);
    }

    private static void twos() {
        promise("Promise 13, TWO");
        due("adds", two(0, 3, -5), -2);
        due("adds out of range", two(0, MOST, 1), -2);
        due("adds to the edge", two(0, MOST - 1, 1), MOST);
        due("takes away", two(1, 3, -5), 8);
        due("takes away out of range", two(1, -MOST, 1), -2);
        due("multiplies", two(2, -3, 5), -15);
        due("multiplies to the edge", two(2, 1000000, 1000000000), MOST);
        due("multiplies out of range", two(2, 1000001, 1000000000), -2);
        due("multiplies far out of range", two(2, 1L << 40, 1L << 24), -2);
        due("multiplies by 0", two(2, 0, MOST), 0);
        due("divides rounded down", two(3, -7, 2), -4);
        due("divides", two(3, 7, -2), -4);
        due("divides by 0", two(3, 7, 0), -1);
        due("the rest", two(4, -7, 2), 1);
        due("the rest", two(4, 7, -2), -1);
        due("the rest by 0", two(4, 7, 0), -1);
        due("the lesser", two(5, 7, -2), -2);
        due("the greater", two(6, 7, -2), 7);
        due("less", two(7, -2, 7), 1);
        due("not less", two(7, 7, 7), 0);
        due("the same", two(8, 7, 7), 1);
        due("not the same", two(8, 7, 6), 0);
        due("float", two(9, 1, 3), 333);
        due("float", two(9, -2, 3), -666);
        due("float", two(9, 16777217, 1), 16777216000L);
        due("float by 0", two(9, 1, 0), -1);
        due("float out of range", two(9, MOST, 1), -2);
        rowsInTwo();
    }

    private static void rowsInTwo() {
        NoteDocument x = document(6, 3);
        int three = x.number(3);
        int zero = x.number(0);
        int list = x.node(LIST, 0, three, 0);
        x.put(0, 0, 0, x.node(TWO, 2, list, three));
        due("a row and a number", x.value(0, 2, 0), 9);
        x.put(0, 0, 0, x.node(TWO, 1, three, list));
        due("a number and a row", x.value(0, 2, 0), 0);
        due("a number and a row", x.value(0, 0, 0), 2);
        x.put(0, 0, 0, x.node(TWO, 3, three, x.node(TWO, 1, list, x.number(2))));
        due("an error stands in the row", x.spills(0, 0, 0), 3);
        due("where it comes", x.value(0, 1, 0), 1);
        due("where it comes", x.kind(0, 1, 0), 2);
        due("and the others", x.value(0, 0, 0), -3);
        x.put(0, 0, 0, x.node(TWO, 0, list, x.node(LIST, 0, x.number(2), 0)));
        due("unlike lengths", x.value(0, 0, 0), 7);
        x.put(0, 0, 0, x.node(TWO, 0, list, x.node(TWO, 3, three, zero)));
        due("an error that is no row", x.spills(0, 0, 0), 1);
        due("is the value", x.value(0, 0, 0), 1);
        int out = x.node(LIST, 0, zero, 0);
        x.put(0, 0, 0, x.node(TWO, 0, out, x.node(TWO, 3, three, zero)));
        due("the first part's ahead", x.value(0, 0, 0), 2);
        x.put(0, 0, 0, x.node(TWO, 0, x.range(0, 0, 2, 2, 2), list));
        due("empty as 0", x.value(0, 2, 0), 3);
    }

    private static void nodesOfParts() {
        promise("Promise 13");
        NoteDocument x = document(3, 3);
        int zero = x.number(0);
        thrown("kind", ARGUMENT, () -> x.node(8, 0, 0, 0));
        thrown("kind", ARGUMENT, () -> x.node(-1, 0, 0, 0));
        thrown("sign of TWO", ARGUMENT, () -> x.node(TWO, 10, 0, 0));
        thrown("sign of FOLD", ARGUMENT, () -> x.node(FOLD, 4, 0, 0));
        thrown("sign of LIST", ARGUMENT, () -> x.node(LIST, -1, 0, 0));
        thrown("grid of PICK", ARGUMENT, () -> x.node(PICK, 1, 0, 0));
        thrown("function of CALL", ARGUMENT, () -> x.node(CALL, 4, 0, 0));
        thrown("function of EACH", ARGUMENT, () -> x.node(EACH, -1, 0, 0));
        thrown("no such node", INDEX, () -> x.node(TWO, 0, 1, 0));
        thrown("no such node", INDEX, () -> x.node(ITEM, 77, 0, -1));
        thrown("sign and node", ARGUMENT, () -> x.node(TWO, 10, 1, 0));
        due("second counts for nothing", x.node(FOLD, 0, 0, 99), 1);
        due("second counts for nothing", x.node(LIST, 0, 0, -99), 2);
        due("sign counts for nothing", x.node(ITEM, -5, 0, 0), 3);
        due("sign counts for nothing", x.node(ELSE, 50, 0, 0), 4);
        int heavy = zero;
        for (int i = 0; i < 19; i++) {
            heavy = x.node(TWO, 0, heavy, zero);
        }
        int most = heavy;
        due("of the weight 40", x.node(FOLD, 0, most, 0), 24);
        thrown("too heavy", STATE, () -> x.node(TWO, 0, most, zero));
        fill(x, 25);
        thrown("150 nodes", STATE, () -> x.node(ELSE, 0, 0, 0));
        thrown("150 nodes, no such node", INDEX, () -> x.node(ELSE, 0, 150, 0));
        foldsAndLists();
        itemsAndPicks();
        functions();
    }

    private static void foldsAndLists() {
        promise("Promise 13, FOLD and LIST");
        NoteDocument x = document(6, 3);
        x.set(0, 0, 0, 5);
        x.set(0, 1, 0, -3);
        x.set(0, 3, 0, 2);
        int row = x.range(0, 0, 0, 3, 0);
        long[] folds = {4, 3, 5, -3};
        for (int sign = 0; sign < 4; sign++) {
            x.put(0, 0, 1, x.node(FOLD, sign, row, 0));
            due("FOLD " + sign, x.value(0, 0, 1), folds[sign]);
        }
        int none = x.range(0, 4, 0, 5, 0);
        long[] ofNone = {0, 0, 8, 8};
        for (int sign = 0; sign < 4; sign++) {
            x.put(0, 0, 1, x.node(FOLD, sign, none, 0));
            due("FOLD of none " + sign, x.value(0, 0, 1), ofNone[sign]);
            due("kind", x.kind(0, 0, 1), sign < 2 ? 1 : 2);
        }
        int two = x.number(2);
        x.put(0, 0, 1, x.node(FOLD, 1, two, 0));
        due("FOLD of no row", x.value(0, 0, 1), 6);
        int error = x.node(TWO, 3, two, x.number(0));
        x.put(0, 0, 1, x.node(FOLD, 1, error, 0));
        due("FOLD of an error", x.value(0, 0, 1), 1);
        x.set(0, 4, 0, MOST);
        x.set(0, 5, 0, 1);
        x.put(0, 0, 1, x.node(FOLD, 0, none, 0));
        due("a sum out of range", x.value(0, 0, 1), 2);
        x.erase(0, 4, 0);
        x.erase(0, 5, 0);
        x.put(0, 0, 1, x.node(LIST, 1, row, 0));
        due("reversed", x.value(0, 0, 1), 2);
        due("reversed", x.kind(0, 1, 1), 0);
        due("reversed", x.value(0, 3, 1), 5);
        x.put(0, 0, 1, x.node(LIST, 2, row, 0));
        due("rising", x.value(0, 0, 1), -3);
        due("rising", x.value(0, 1, 1), 2);
        due("its numbers alone", x.spills(0, 0, 1), 3);
        x.put(0, 0, 1, x.node(LIST, 3, row, 0));
        due("above 0", x.value(0, 0, 1), 5);
        due("above 0", x.value(0, 1, 1), 2);
        due("above 0", x.spills(0, 0, 1), 2);
        x.put(0, 0, 1, x.node(LIST, 2, none, 0));
        due("rising of none", x.value(0, 0, 1), 8);
        x.put(0, 0, 1, x.node(LIST, 2, two, 0));
        due("of no row", x.value(0, 0, 1), 6);
        int counts = x.node(LIST, 0, x.number(21), 0);
        x.put(0, 0, 1, counts);
        due("more than 20", x.value(0, 0, 1), 2);
        x.put(0, 0, 1, x.node(FOLD, 1, x.node(LIST, 0, x.number(20), 0), 0));
        due("20", x.value(0, 0, 1), 20);
        breakCell(x, 2, 0);
        x.put(0, 0, 1, x.node(LIST, 3, row, 0));
        due("the first error in it", x.value(0, 0, 1), 1);
        x.put(0, 0, 1, x.node(LIST, 1, row, 0));
        due("an error in a row", x.value(0, 0, 1), 2);
        due("an error in a row", x.kind(0, 1, 1), 2);
        x.put(0, 0, 1, x.node(FOLD, 1, row, 0));
        due("the first error in it", x.kind(0, 0, 1), 2);
        x.put(0, 0, 1, x.node(LIST, 0, row, 0));
        due("a row taken as a number", x.value(0, 0, 1), 6);
    }

    private static void itemsAndPicks() {
        promise("Promise 13, ITEM, PICK and ELSE");
        NoteDocument x = document(5, 3);
        int three = x.number(3);
        int list = x.node(LIST, 0, three, 0);
        int zero = x.number(0);
        int four = x.number(4);
        int error = x.node(TWO, 3, three, zero);
        x.put(0, 0, 0, x.node(ITEM, 0, list, three));
        due("ITEM", x.value(0, 0, 0), 3);
        x.put(0, 0, 0, x.node(ITEM, 0, list, four));
        due("no such ITEM", x.value(0, 0, 0), 8);
        x.put(0, 0, 0, x.node(ITEM, 0, list, zero));
        due("no such ITEM", x.value(0, 0, 0), 8);
        x.put(0, 0, 0, x.node(ITEM, 0, three, zero));
        due("ITEM of no row", x.value(0, 0, 0), 6);
        x.put(0, 0, 0, x.node(ITEM, 0, list, error));
        due("ITEM at an error", x.value(0, 0, 0), 1);
        x.put(0, 0, 0, x.node(ITEM, 0, x.node(TWO, 3, three, x.node(TWO, 1, list, three)), x.number(1)));
        due("ITEM of a row with an error", x.value(0, 0, 0), -2);
        x.put(0, 0, 0, x.node(ITEM, 0, list, x.number(1)));
        due("the first ITEM", x.value(0, 0, 0), 1);
        x.put(0, 0, 1, list);
        x.put(0, 0, 0, x.node(PICK, 0, x.number(2), x.number(1)));
        due("PICK", x.value(0, 0, 0), 3);
        x.put(0, 0, 0, x.node(PICK, 0, zero, x.number(1)));
        due("PICK of the first row", x.value(0, 0, 0), 1);
        x.put(0, 0, 0, x.node(PICK, 0, zero, three));
        due("PICK of no column", x.kind(0, 0, 0), 2);
        x.put(0, 0, 0, x.node(PICK, 0, x.number(5), zero));
        due("PICK of none", x.value(0, 0, 0), 3);
        due("an error", x.kind(0, 0, 0), 2);
        x.put(0, 0, 0, x.node(PICK, 0, x.number(-1), zero));
        due("PICK of none", x.kind(0, 0, 0), 2);
        x.put(0, 0, 0, x.node(PICK, 0, list, zero));
        due("PICK by a row", x.value(0, 0, 0), 6);
        x.put(0, 0, 0, x.node(PICK, 0, zero, error));
        due("PICK by an error", x.value(0, 0, 0), 1);
        x.put(0, 0, 0, x.node(ELSE, 0, error, four));
        due("ELSE of an error", x.value(0, 0, 0), 4);
        x.put(0, 0, 0, x.node(ELSE, 0, list, four));
        due("ELSE of none", x.spills(0, 0, 0), 3);
        x.put(0, 0, 2, x.node(PICK, 0, x.number(1), x.cell(0, 4, 1, false)));
        due("an empty value taken as a number", x.value(0, 0, 2), 2);
    }

    private static void functions() {
        promise("Promise 13, CALL and EACH");
        NoteDocument x = document(5, 3);
        int twelve = x.number(12);
        int zero = x.number(0);
        int sum = x.node(TWO, 0, x.leaf(2, 0), x.node(TWO, 2, x.leaf(2, 1), x.number(100)));
        int call = x.node(CALL, 2, twelve, zero);
        x.put(0, 0, 0, call);
        due("no body", x.value(0, 0, 0), 8);
        due("no body was run", x.calls(), 0);
        x.define(2, sum);
        due("CALL", x.value(0, 0, 0), 12);
        x.put(0, 0, 0, x.node(CALL, 2, zero, twelve));
        due("CALL", x.value(0, 0, 0), 1200);
        x.put(0, 0, 0, x.node(CALL, 2, x.number(13), zero));
        due("13", x.value(0, 0, 0), 2);
        x.put(0, 0, 0, x.node(CALL, 2, zero, x.number(-1)));
        due("-1", x.value(0, 0, 0), 2);
        x.put(0, 0, 0, x.node(CALL, 2, zero, x.number(13)));
        due("13 as the second one", x.value(0, 0, 0), 2);
        due("calls", x.calls(), 2);
        int list = x.node(LIST, 0, x.number(3), 0);
        x.put(0, 0, 0, x.node(EACH, 2, list, zero));
        due("EACH", x.value(0, 2, 0), 3);
        due("calls", x.calls(), 5);
        x.put(0, 0, 0, x.node(EACH, 2, x.node(TWO, 2, list, x.number(6)), zero));
        due("EACH of 6", x.value(0, 0, 0), 6);
        due("EACH of 18", x.value(0, 2, 0), 2);
        due("stands in the row", x.kind(0, 2, 0), 2);
        x.put(0, 0, 0, x.node(EACH, 2, x.node(TWO, 3, twelve, x.node(TWO, 1, list, x.number(2))), zero));
        due("EACH of an error", x.value(0, 1, 0), 1);
        due("EACH of what is behind it", x.value(0, 2, 0), 12);
        due("EACH of what is out of range", x.value(0, 0, 0), 2);
        x.put(0, 0, 0, x.node(EACH, 2, twelve, zero));
        due("EACH of no row", x.value(0, 0, 0), 6);
        x.put(0, 0, 0, x.node(EACH, 2, list, list));
        due("EACH with a row", x.value(0, 0, 0), 6);
        x.define(2, list);
        x.put(0, 0, 0, x.node(EACH, 2, list, zero));
        due("a row as such a value", x.value(0, 0, 0), 6);
        due("in its place", x.spills(0, 0, 0), 3);
        x.put(0, 0, 0, x.node(CALL, 2, zero, zero));
        due("a row as a value", x.spills(0, 0, 0), 3);
        int self = x.node(CALL, 0, x.leaf(2, 0), x.leaf(2, 1));
        x.define(0, self);
        x.put(0, 0, 0, x.node(CALL, 0, zero, zero));
        due("a function that needs itself", x.value(0, 0, 0), 4);
        due("came through this cell alone", x.through(0, 0, 0), 1);
        x.name(3, x.leaf(2, 0));
        x.define(0, x.leaf(1, 3));
        due("GIVEN in a name", x.value(0, 0, 0), 8);
    }

    private static void whens() {
        promise("Promise 14");
        NoteDocument x = document(4, 2);
        int zero = x.number(0);
        int seven = x.number(7);
        int empty = x.cell(0, 3, 1, false);
        x.put(0, 0, 0, x.when(seven, seven, zero));
        due("not 0", x.value(0, 0, 0), 7);
        x.put(0, 0, 0, x.when(empty, zero, seven));
        due("empty is 0", x.value(0, 0, 0), 7);
        int error = x.node(TWO, 3, seven, zero);
        x.put(0, 0, 0, x.when(error, zero, seven));
        due("an error", x.value(0, 0, 0), 1);
        x.put(0, 0, 0, x.when(x.node(LIST, 0, seven, 0), zero, seven));
        due("a row", x.value(0, 0, 0), 6);
        int other = x.cell(0, 1, 0, false);
        x.put(0, 1, 0, seven);
        x.put(0, 0, 0, x.when(zero, other, seven));
        x.value(0, 0, 0);
        int runs = x.runs();
        x.put(0, 1, 0, zero);
        x.value(0, 0, 0);
        due("the second one is not run", x.runs(), runs);
        thrown("no such node", INDEX, () -> x.when(99, 0, 0));
        thrown("no such node", INDEX, () -> x.when(0, 99, 0));
        thrown("no such node", INDEX, () -> x.when(0, 0, -1));
        NoteDocument y = new NoteDocument();
        int one = y.number(1);
        int heavy = one;
        for (int i = 0; i < 18; i++) {
            heavy = y.node(TWO, 0, heavy, one);
        }
        int most = heavy;
        due("of the weight 40", y.when(most, one, one), 19);
        int more = y.node(FOLD, 0, most, 0);
        thrown("too heavy", STATE, () -> y.when(more, one, one));
        fill(y, 21);
        thrown("150 nodes", STATE, () -> y.when(0, 0, 0));
    }

    private static void tornNodes() {
        promise("Promise 15");
        NoteDocument x = document(4, 2);
        due("none", x.torn(), 0);
        int lost = x.cell(0, 1, 0, false);
        x.cell(0, 1, 1, true);
        x.range(0, 1, 0, 1, 1);
        x.range(0, 0, 0, 1, 1);
        x.leaf(0, 0);
        x.put(0, 3, 0, lost);
        due("remove", x.remove(0, 1), 3);
        due("torn", x.torn(), 3);
        due("a torn node has an error", x.value(0, 2, 0), 3);
        due("the error is one", x.kind(0, 2, 0), 2);
        due("remove", x.remove(0, 0), 1);
        due("torn", x.torn(), 4);
        x.undo();
        due("undo", x.torn(), 3);
    }

    private static void names() {
        promise("Promise 16");
        NoteDocument x = document(3, 2);
        int five = x.number(5);
        x.put(0, 0, 0, x.leaf(1, 0));
        x.name(0, five);
        due("value", x.value(0, 0, 0), 5);
        x.name(0, -1);
        due("none", x.value(0, 0, 0), 8);
        thrownBy("name", ARGUMENT, () -> x.name(6, 99));
        thrownBy("name", ARGUMENT, () -> x.name(-1, 0));
        thrownBy("node", INDEX, () -> x.name(5, 99));
        thrownBy("node", INDEX, () -> x.name(0, -2));
        x.undo();
        due("undo", x.value(0, 0, 0), 5);
        breakCell(x, 1, 0);
        x.name(0, x.cell(0, 1, 0, false));
        due("by a name through two cells", x.through(0, 0, 0), 2);
        due("cause", x.cause(0, 0, 0), 10);

        promise("Promise 17");
        int zero = x.number(0);
        x.put(0, 0, 1, x.node(CALL, 3, zero, zero));
        x.define(3, five);
        due("value", x.value(0, 0, 1), 5);
        due("calls", x.calls(), 1);
        x.define(3, -1);
        due("none", x.value(0, 0, 1), 8);
        thrownBy("function", ARGUMENT, () -> x.define(4, 99));
        thrownBy("node", INDEX, () -> x.define(3, 99));
        thrownBy("node", INDEX, () -> x.define(3, -2));
        x.undo();
        due("undo", x.value(0, 0, 1), 5);
        due("what was found is back", x.calls(), 1);
    }

    private static void notes() {
        promise("Promise 18");
        NoteDocument x = document(4, 2);
        due("note", x.note(), 0);
        due("note", x.note(), 1);
        x.set(0, 0, 0, 1);
        due("note", x.note(), 2);
        thrown("a fourth", STATE, x::note);
        x.undo();
        due("undone never", x.length(2), 0);

        promise("Promise 19");
        due("say", x.say(0, 1), 1);
        due("say", x.say(0, 20), 2);
        due("length", x.length(0), 21);
        thrown("no such note", INDEX, () -> x.say(3, 21));
        thrown("21 letters", ARGUMENT, () -> x.say(0, 21));
        thrown("no letters", ARGUMENT, () -> x.say(0, 0));
        for (int i = 2; i < 8; i++) {
            x.say(0, 1);
        }
        thrown("8 parts", STATE, () -> x.say(0, 1));
        thrown("8 parts, 21 letters", ARGUMENT, () -> x.say(0, 21));
        x.undo();
        due("undo", x.length(0), 26);

        promise("Promise 20");
        x.say(0, 1);
        thrown("no such note", INDEX, () -> x.show(-1, 0, 0, 0, 3));
        thrown("no such cell", INDEX, () -> x.show(0, 0, 4, 0, 3));
        thrown("no such format", ARGUMENT, () -> x.show(0, 0, 0, 0, 3));
        thrown("no such format", ARGUMENT, () -> x.show(0, 0, 0, 0, -1));
        thrown("8 parts", STATE, () -> x.show(0, 0, 0, 0, 0));
        shown("1234567", -1234567, 0, "-1234567");
        shown("commas", -1234567, 1, "-1,234,567");
        shown("commas", 123, 1, "123");
        shown("commas", 1000, 1, "1,000");
        shown("commas", -MOST, 1, "-1,000,000,000,000,000");
        shown("commas", 0, 1, "0");
        shown("spaces", -12, 2, "   -12");
        shown("spaces", 1234567, 2, "1234567");
        shown("spaces", 123456, 2, "123456");
        partsOfNotes();
    }

    private static void shown(String what, long number, int format, String text) {
        NoteDocument x = document(1, 1);
        x.set(0, 0, 0, number);
        x.note();
        x.show(0, 0, 0, 0, format);
        due(what, text(x, 0).equals(text));
    }

    private static String text(NoteDocument x, int note) {
        StringBuilder text = new StringBuilder();
        for (int i = 0; i < x.length(note); i++) {
            text.append((char) x.letter(note, i));
        }
        return text.toString();
    }

    private static void partsOfNotes() {
        NoteDocument x = document(5, 2);
        x.note();
        x.note();
        int three = x.number(3);
        x.put(0, 0, 0, x.node(LIST, 0, three, 0));
        breakCell(x, 0, 1);
        x.say(0, 2);
        x.show(0, 0, 0, 0, 2);
        x.show(0, 0, 4, 0, 2);
        x.show(0, 0, 0, 1, 2);
        x.show(0, 0, 1, 0, 0);
        due("a row by its first value, empty as nothing, an error", text(x, 0).equals("aa     1!12"));
        int length = x.leaf(3, 0);
        x.put(0, 4, 1, length);
        due("LENGTH", x.value(0, 4, 1), 11);
        x.show(0, 0, 4, 1, 0);
        due("a note in a circle", text(x, 0).equals("!4"));
        due("and the cell", x.through(0, 4, 1), 1);
        x.show(1, 0, 4, 1, 1);
        due("a note that shows it", text(x, 1).equals("!4"));
        x.undo();
        x.undo();
        due("undo", x.value(0, 4, 1), 11);
        due("LENGTH of another note", lengthOf(x, 1), 0);
        x.remove(0, 0);
        due("torn cells", text(x, 0).equals("aa!3!3"));
    }

    private static long lengthOf(NoteDocument x, int note) {
        x.put(0, 3, 1, x.leaf(3, note));
        return x.value(0, 3, 1);
    }

    private static void ticks() {
        promise("Promise 21");
        NoteDocument x = document(3, 1);
        due("tick", x.tick(0, 0), 1);
        due("tick", x.tick(1000000, 1000000), 2);
        thrown("time", ARGUMENT, () -> x.tick(1000001, 0));
        thrown("time", ARGUMENT, () -> x.tick(-1, 0));
        thrown("seed", ARGUMENT, () -> x.tick(0, 1000001));
        thrown("seed", ARGUMENT, () -> x.tick(0, -1));
        x.put(0, 0, 0, x.leaf(4, 0));
        x.put(0, 1, 0, x.leaf(5, 0));
        x.put(0, 2, 0, x.leaf(6, 0));
        due("CLOCK", x.value(0, 0, 0), 1000000);
        due("COUNTER", x.value(0, 1, 0), 2);
        due("DRAW", x.value(0, 2, 0), 7919L * ((31L * 1000000 + 2) * 31) % 1000);
        int runs = x.runs();
        x.tick(1000000, 7);
        x.calculate();
        due("only what has changed", x.runs(), runs + 2);
        x.undo();
        due("undo", x.value(0, 1, 0), 2);
        for (int i = 2; i < 1000; i++) {
            x.tick(0, 0);
        }
        thrown("1000 ticks", STATE, () -> x.tick(0, 0));
        thrown("1000 ticks, seed", ARGUMENT, () -> x.tick(0, -1));
    }

    private static void ways() {
        promise("Promise 22");
        NoteDocument x = document(4, 2);
        thrown("way", ARGUMENT, () -> x.setWay(3));
        thrown("way", ARGUMENT, () -> x.setWay(-1));
        x.set(0, 0, 0, 1);
        int a = x.cell(0, 0, 0, false);
        x.put(0, 1, 0, a);
        x.put(0, 1, 1, a);
        due("by need none is run", x.runs(), 0);
        due("setWay", x.setWay(1), 0);
        due("all at once", x.runs(), 2);
        x.set(0, 0, 0, 2);
        due("by push", x.runs(), 4);
        x.set(0, 0, 0, 2);
        due("nothing has changed", x.runs(), 4);
        due("setWay", x.setWay(2), 1);
        x.set(0, 0, 0, 3);
        due("by hand", x.value(0, 1, 0), 2);
        due("a number", x.value(0, 0, 0), 3);
        due("from nothing", x.valueFromNothing(0, 1, 0), 3);
        x.put(0, 3, 0, a);
        due("nothing was found", x.kind(0, 3, 0), 0);
        x.note();
        x.say(0, 5);
        due("a note without characters", x.length(0), 0);
        thrown("no such character", INDEX, () -> x.letter(0, 0));

        promise("Promise 23");
        due("calculate", x.calculate(), 3);
        due("value", x.value(0, 1, 0), 3);
        due("length", x.length(0), 5);
        x.say(0, 1);
        due("by hand", x.length(0), 5);
        due("calculate", x.calculate(), 0);
        due("length", x.length(0), 6);
        x.put(0, 0, 1, x.node(TWO, 0, x.cell(0, 0, 1, false), a));
        due("in a circle nothing counts", x.calculate(), 0);
        due("error", x.value(0, 0, 1), 4);
        x.insert(0, 4 - 1);
        due("all is forgotten", x.kind(0, 1, 0), 0);
        due("calculate", x.calculate(), 3);
        x.undo();
        due("what was found is back", x.value(0, 1, 0), 3);
        x.setWay(0);
        due("by need", x.calculate(), 0);
    }

    private static void reads() {
        promise("Promise 24");
        NoteDocument x = document(5, 3);
        int three = x.number(3);
        x.set(0, 0, 0, 9);
        x.put(0, 1, 0, x.node(LIST, 0, three, 0));
        breakCell(x, 0, 1);
        due("empty", x.kind(0, 4, 1), 0);
        due("a number", x.kind(0, 0, 0), 1);
        due("spilled", x.kind(0, 3, 0), 1);
        due("below", x.kind(0, 4, 0), 0);
        due("an error", x.kind(0, 0, 1), 2);
        due("below a number nothing", x.kind(0, 1, 1), 0);
        thrown("no such cell", INDEX, () -> x.kind(0, 5, 0));

        promise("Promise 25");
        due("empty", x.value(0, 4, 1), 0);
        due("a number", x.value(0, 0, 0), 9);
        due("of a row its first value", x.value(0, 1, 0), 1);
        due("spilled", x.value(0, 3, 0), 3);
        due("an error", x.value(0, 0, 1), 1);
        thrown("no such cell", INDEX, () -> x.value(0, 0, 3));

        promise("Promise 26");
        due("spills", x.spills(0, 1, 0), 3);
        due("what is spilled into", x.spills(0, 2, 0), 1);
        due("a number", x.spills(0, 0, 0), 1);
        thrown("no such cell", INDEX, () -> x.spills(1, 0, 0));
        x.put(0, 2, 1, x.node(LIST, 0, three, 0));
        due("to the last row", x.spills(0, 2, 1), 3);
        x.put(0, 3, 2, x.node(LIST, 0, three, 0));
        due("too few rows", x.value(0, 3, 2), 5);
        x.put(0, 3, 2, x.node(LIST, 0, x.number(1), 0));
        due("a row of one value", x.value(0, 3, 2), 1);
        due("is that value", x.spills(0, 3, 2), 1);
        x.set(0, 3, 0, 7);
        due("blocked", x.value(0, 1, 0), 5);
        due("blocked", x.kind(0, 2, 0), 0);
        x.put(0, 3, 0, x.cell(0, 4, 2, false));
        due("blocked by a formula that is empty", x.value(0, 1, 0), 5);
        x.erase(0, 3, 0);
        due("unblocked", x.value(0, 2, 0), 2);

        promise("Promise 27");
        due("none", x.through(0, 0, 0), 0);
        due("arose here", x.through(0, 0, 1), 1);
        x.put(0, 0, 2, x.cell(0, 0, 1, false));
        x.put(0, 1, 2, x.cell(0, 0, 2, false));
        due("through three", x.through(0, 1, 2), 3);
        thrown("no such cell", INDEX, () -> x.through(0, -1, 0));
        promise("Promise 28");
        due("cause", x.cause(0, 1, 2), 1);
        due("none", x.cause(0, 0, 0), -1);
        due("of an empty one", x.cause(0, 4, 2), -1);
        thrown("no such cell", INDEX, () -> x.cause(0, 0, -1));
        spilledErrors();
    }

    private static void spilledErrors() {
        NoteDocument x = new NoteDocument();
        x.grid(3, 1);
        x.grid(6, 2);
        int one = x.number(1);
        int list = x.node(LIST, 0, x.number(3), 0);
        x.put(1, 2, 1, x.node(TWO, 3, one, x.node(TWO, 1, list, x.number(2))));
        due("an error that is spilled", x.cause(1, 3, 1), 121);
        due("has come through one", x.through(1, 3, 1), 1);
        x.put(0, 0, 0, x.cell(1, 3, 1, false));
        due("read", x.through(0, 0, 0), 2);
        due("read", x.cause(0, 0, 0), 121);
        x.put(0, 2, 0, x.node(FOLD, 0, x.cell(1, 2, 1, true), 0));
        due("in a row", x.through(0, 2, 0), 2);
    }

    private static void fromNothing() {
        promise("Promise 29");
        NoteDocument x = document(4, 2);
        x.set(0, 0, 0, 4);
        int a = x.cell(0, 0, 0, false);
        x.put(0, 1, 0, x.node(TWO, 3, a, x.cell(0, 0, 1, false)));
        due("an error", x.kindFromNothing(0, 1, 0), 2);
        due("a number", x.kindFromNothing(0, 0, 0), 1);
        due("empty", x.kindFromNothing(0, 3, 1), 0);
        due("no runs", x.runs(), 0);
        thrown("no such cell", INDEX, () -> x.kindFromNothing(0, 4, 0));
        promise("Promise 30");
        due("an error", x.valueFromNothing(0, 1, 0), 1);
        x.set(0, 0, 1, 2);
        due("a number", x.valueFromNothing(0, 1, 0), 2);
        due("keeps nothing", x.runs(), 0);
        x.value(0, 1, 0);
        due("runs", x.runs(), 1);
        x.hold(0, 1, 0, 50);
        due("what is held", x.valueFromNothing(0, 1, 0), 50);
        int zero = x.number(0);
        x.define(0, a);
        x.put(0, 3, 0, x.node(CALL, 0, zero, zero));
        due("calls", x.valueFromNothing(0, 3, 0), 4);
        due("no calls", x.calls(), 0);
        thrown("no such cell", INDEX, () -> x.valueFromNothing(-1, 0, 0));
    }

    private static void characters() {
        promise("Promise 31");
        NoteDocument x = document(2, 2);
        thrown("no such note", INDEX, () -> x.length(0));
        x.note();
        due("empty", x.length(0), 0);
        x.say(0, 3);
        x.set(0, 0, 0, -7);
        x.show(0, 0, 0, 0, 0);
        due("length", x.length(0), 5);
        x.set(0, 0, 0, 12345);
        due("length", x.length(0), 8);
        promise("Promise 32");
        due("letter", x.letter(0, 0), 'a');
        due("letter", x.letter(0, 7), '5');
        thrown("no such character", INDEX, () -> x.letter(0, 8));
        thrown("no such character", INDEX, () -> x.letter(0, -1));
        thrown("no such note", INDEX, () -> x.letter(1, 0));
        lettersNotThere();
    }

    /** A call that throws has changed nothing, though it has to ask ahead of that. */
    private static void lettersNotThere() {
        NoteDocument x = document(2, 2);
        int two = x.number(2);
        x.define(0, x.cell(0, 0, 1, false));
        x.put(0, 0, 0, x.node(CALL, 0, two, two));
        x.note();
        x.show(0, 0, 0, 0, 0);
        x.say(0, 2);
        thrown("no such character", INDEX, () -> x.letter(0, 2));
        thrown("no such character", INDEX, () -> x.letter(0, -1));
        due("runs", x.runs(), 0);
        due("calls", x.calls(), 0);
        x.setWay(2);
        due("nothing was found for the note", x.length(0), 0);
        due("nothing was found for the cell", x.kind(0, 0, 0), 0);
        x.setWay(0);
        due("a character that is there", x.letter(0, 1), 'a');
        due("runs", x.runs(), 1);
        due("calls", x.calls(), 1);
        x.set(0, 0, 1, 12);
        thrown("no such character", INDEX, () -> x.letter(0, 4));
        due("runs", x.runs(), 1);
        x.setWay(2);
        due("what was found before", x.length(0), 2);
        thrown("no such character by hand", INDEX, () -> x.letter(0, 2));
        x.setWay(0);
        due("found anew", x.length(0), 4);
        due("runs", x.runs(), 2);
        due("calls", x.calls(), 2);
        thrown("no such character of what is found", INDEX, () -> x.letter(0, 4));
        x.setWay(2);
        due("it stays found", x.length(0), 4);
    }

    private static void counts() {
        promise("Promise 33");
        NoteDocument x = document(4, 3);
        int a = x.cell(0, 0, 0, false);
        int zero = x.number(0);
        x.set(0, 0, 0, 5);
        x.put(0, 1, 0, x.node(TWO, 7, zero, a));
        int b = x.cell(0, 1, 0, false);
        x.put(0, 2, 0, x.node(TWO, 0, b, zero));
        due("value", x.value(0, 2, 0), 1);
        due("two runs", x.runs(), 2);
        x.set(0, 0, 0, 6);
        x.value(0, 2, 0);
        due("the value has not changed", x.runs(), 3);
        x.set(0, 0, 0, 7);
        x.set(0, 0, 0, 6);
        x.value(0, 2, 0);
        due("nothing has changed", x.runs(), 3);
        x.set(0, 0, 0, -6);
        x.value(0, 2, 0);
        due("both", x.runs(), 5);
        x.undo();
        x.value(0, 2, 0);
        due("undo brings back what was found", x.runs(), 5);
        readingInOrder();

        promise("Promise 34");
        NoteDocument y = document(2, 2);
        y.define(0, y.node(TWO, 0, y.leaf(2, 0), y.cell(0, 0, 0, false)));
        int two = y.number(2);
        int call = y.node(CALL, 0, two, two);
        y.put(0, 1, 0, y.node(TWO, 0, call, call));
        due("value", y.value(0, 1, 0), 4);
        due("once for what it is called with", y.calls(), 1);
        y.set(0, 0, 0, 1);
        due("value", y.value(0, 1, 0), 6);
        due("calls", y.calls(), 2);
        y.undo();
        due("they stay", y.calls(), 2);
        y.value(0, 1, 0);
        due("found again", y.calls(), 2);
        y.erase(0, 1, 0);
        due("none asks", y.calls(), 2);
    }

    /** What was read is gone through in its order, up to the first thing that has changed. */
    private static void readingInOrder() {
        NoteDocument x = document(5, 3);
        int guard = x.cell(0, 0, 0, false);
        int costly = x.cell(0, 1, 0, false);
        int zero = x.number(0);
        int source = x.cell(0, 0, 1, false);
        x.set(0, 0, 0, 1);
        x.put(0, 1, 0, source);
        x.put(0, 2, 0, x.when(guard, costly, zero));
        x.value(0, 2, 0);
        due("two runs", x.runs(), 2);
        x.set(0, 0, 1, 5);
        x.set(0, 0, 0, 0);
        x.value(0, 2, 0);
        due("the costly one is not asked for", x.runs(), 3);
        int list = x.node(LIST, 0, x.number(3), 0);
        x.put(0, 0, 2, list);
        x.value(0, 0, 2);
        due("run", x.runs(), 4);
        x.set(0, 2, 2, 1);
        due("blocked", x.value(0, 0, 2), 5);
        due("run", x.runs(), 5);
        x.set(0, 1, 2, 1);
        x.value(0, 0, 2);
        due("it reads from the top on", x.runs(), 6);
        x.erase(0, 2, 2);
        x.value(0, 0, 2);
        due("up to the first one that has a content", x.runs(), 6);
        x.put(0, 4, 0, x.cell(0, 4, 1, false));
        x.value(0, 4, 0);
        int runs = x.runs();
        x.set(0, 4, 2, 1);
        x.value(0, 4, 0);
        due("another column", x.runs(), runs);
        x.set(0, 2, 1, 1);
        x.value(0, 4, 0);
        due("a content above", x.runs(), runs + 1);
        x.set(0, 0, 1, 8);
        x.value(0, 4, 0);
        due("a content further above", x.runs(), runs + 1);
        longRows();
    }

    /** A row that is too long for its grid has read what is there below, too. */
    private static void longRows() {
        NoteDocument x = document(4, 1);
        x.put(0, 1, 0, x.node(LIST, 0, x.number(5), 0));
        due("too long", x.value(0, 1, 0), 5);
        due("run", x.runs(), 1);
        x.set(0, 0, 0, 1);
        x.value(0, 1, 0);
        due("what is above counts for nothing", x.runs(), 1);
        x.set(0, 3, 0, 1);
        due("still too long", x.value(0, 1, 0), 5);
        due("the last one below", x.runs(), 2);
        x.set(0, 2, 0, 1);
        x.value(0, 1, 0);
        due("the first one below", x.runs(), 3);
        x.erase(0, 3, 0);
        x.value(0, 1, 0);
        due("up to the first one that has a content", x.runs(), 3);
        x.put(0, 3, 0, x.node(LIST, 0, x.number(2), 0));
        due("nothing is below", x.value(0, 3, 0), 5);
        due("run", x.runs(), 4);
    }

    private static void inserts() {
        promise("Promise 35");
        NoteDocument x = document(3, 2);
        x.set(0, 0, 0, 1);
        x.set(0, 1, 0, 2);
        x.set(0, 2, 0, 4);
        x.overlay(2, 0, 1, 0, 30);
        int sum = x.node(FOLD, 0, x.range(0, 0, 0, 2, 0), 0);
        int below = x.node(FOLD, 0, x.range(0, 1, 0, 2, 0), 0);
        int middle = x.cell(0, 1, 0, false);
        x.put(0, 0, 1, sum);
        x.put(0, 1, 1, middle);
        x.hold(0, 1, 1, 77);
        x.put(0, 2, 1, below);
        x.note();
        x.show(0, 0, 2, 0, 0);
        x.value(0, 2, 1);
        due("runs", x.runs(), 1);
        due("insert", x.insert(0, 1), 4);
        due("no contents", x.kind(0, 1, 0), 0);
        due("what was found is forgotten", x.value(0, 3, 1), 6);
        due("runs", x.runs(), 2);
        due("a range takes it in", x.value(0, 0, 1), 7);
        x.set(0, 1, 0, 10);
        due("a range takes it in", x.value(0, 0, 1), 17);
        due("a range below does not", x.value(0, 3, 1), 6);
        due("held cells stay held", x.value(0, 2, 1), 77);
        x.hold(0, 2, 1, 0);
        due("references move", x.value(0, 2, 1), 2);
        due("scenarios", x.valueIn(2, 0, 2, 0), 30);
        due("notes", text(x, 0).equals("4"));
        due("behind all", x.insert(0, 4), 5);
        due("a range does not take it in", x.value(0, 0, 1), 17);
        thrown("row", INDEX, () -> x.insert(0, 6));
        thrown("row", INDEX, () -> x.insert(0, -1));
        thrown("grid", INDEX, () -> x.insert(1, 0));
        for (int i = 5; i < 10; i++) {
            x.insert(0, 0);
        }
        thrown("10 rows", STATE, () -> x.insert(0, 10));
        thrown("10 rows, row", INDEX, () -> x.insert(0, 11));
        x.undo();
        due("undo", x.rows(0), 9);

        promise("Promise 36");
        NoteDocument y = document(4, 2);
        for (int i = 0; i < 4; i++) {
            y.set(0, i, 0, 1 << i);
        }
        int row = y.node(FOLD, 0, y.range(0, 1, 0, 3, 0), 0);
        int lost = y.cell(0, 1, 0, false);
        y.cell(0, 1, 0, true);
        y.range(0, 1, 1, 1, 1);
        int last = y.cell(0, 3, 0, false);
        y.overlay(0, 0, 1, 0, 50);
        y.overlay(0, 0, 2, 0, 60);
        y.put(0, 0, 1, row);
        y.put(0, 2, 1, lost);
        y.put(0, 3, 1, last);
        due("remove", y.remove(0, 1), 3);
        due("a range loses it", y.value(0, 0, 1), 12);
        due("a torn node", y.value(0, 1, 1), 3);
        due("through", y.through(0, 1, 1), 1);
        due("below moves up", y.value(0, 2, 1), 8);
        due("a scenario drops it", y.drop(0), 1);
        thrown("row", INDEX, () -> y.remove(0, 3));
        thrown("grid", INDEX, () -> y.remove(1, 0));
        due("remove", y.remove(0, 2), 1);
        due("none", y.remove(0, 1), 1);
        thrown("the only one", STATE, () -> y.remove(0, 0));
        thrown("the only one, row", INDEX, () -> y.remove(0, 1));
        y.undo();
        due("undo", y.rows(0), 2);
    }

    private static void moves() {
        promise("Promise 37");
        NoteDocument x = document(4, 3);
        x.set(0, 0, 0, 6);
        x.set(0, 1, 0, 7);
        x.overlay(1, 0, 0, 0, 60);
        x.overlay(1, 0, 1, 0, 70);
        int from = x.cell(0, 0, 0, false);
        int to = x.cell(0, 1, 0, false);
        int range = x.node(FOLD, 0, x.range(0, 0, 0, 0, 0), 0);
        x.cell(0, 3, 0, true);
        x.put(0, 0, 1, from);
        x.put(0, 1, 1, to);
        x.put(0, 2, 1, range);
        x.note();
        x.show(0, 0, 0, 0, 0);
        x.show(0, 0, 1, 0, 0);
        due("move", x.move(0, 0, 0, 1, 0), 1);
        due("it takes the place", x.value(0, 1, 0), 6);
        due("nothing stays", x.kind(0, 0, 0), 0);
        due("references lead there", x.value(0, 0, 1), 6);
        due("those to the other are torn", x.value(0, 1, 1), 3);
        due("ranges stay", x.value(0, 2, 1), 0);
        due("notes", text(x, 0).equals("6!3"));
        due("scenarios", x.valueIn(1, 0, 1, 0), 60);
        due("scenarios", x.drop(1), 1);
        due("also without a content", x.move(0, 1, 0, 3, 0), 1);
        due("torn", x.torn(), 2);
        x.hold(0, 0, 1, 99);
        due("none", x.move(0, 0, 1, 0, 2), 0);
        due("held cells stay held", x.value(0, 0, 2), 99);
        thrown("the same", ARGUMENT, () -> x.move(0, 0, 0, 0, 0));
        thrown("no content", STATE, () -> x.move(0, 0, 0, 1, 0));
        thrown("no such cell", INDEX, () -> x.move(0, 0, 0, 4, 0));
        thrown("no such cell", INDEX, () -> x.move(0, 0, 3, 0, 0));
        x.undo();
        due("undo", x.value(0, 0, 1), 99);

        promise("Promise 38");
        NoteDocument y = document(6, 3);
        long[] numbers = {5, 3, 0, 3, -1, -9};
        for (int i = 0; i < 6; i++) {
            y.set(0, i, 1, i);
            if (i != 2) {
                y.set(0, i, 0, numbers[i]);
            }
        }
        int first = y.cell(0, 0, 1, false);
        y.put(0, 5, 2, first);
        y.put(0, 4, 2, y.node(FOLD, 0, y.range(0, 0, 0, 0, 0), 0));
        y.overlay(0, 0, 0, 1, 500);
        y.note();
        y.show(0, 0, 2, 1, 0);
        due("sort", y.sort(0, 0, 4, 0), 4);
        int[] order = {4, 1, 3, 0, 2, 5};
        for (int i = 0; i < 6; i++) {
            due("row " + i, y.value(0, i, 1), order[i]);
        }
        due("references go along", y.value(0, 5, 2), 0);
        due("contents go along, ranges stay", y.value(0, 0, 2), -1);
        due("scenarios", y.valueIn(0, 0, 3, 1), 500);
        due("notes", text(y, 0).equals("2"));
        due("sorted", y.sort(0, 0, 4, 0), 0);
        due("one row", y.sort(0, 5, 5, 0), 0);
        y.put(0, 0, 0, first);
        due("a formula goes behind", y.sort(0, 0, 2, 0), 3);
        due("a formula goes behind", y.value(0, 2, 1), 4);
        thrown("to below row", ARGUMENT, () -> y.sort(0, 1, 0, 0));
        thrown("no such row", INDEX, () -> y.sort(0, 0, 6, 0));
        thrown("no such row", INDEX, () -> y.sort(0, -1, 0, 0));
        thrown("no such column", INDEX, () -> y.sort(0, 1, 0, 3));
        thrown("no such grid", INDEX, () -> y.sort(1, 0, 0, 0));
        y.undo();
        due("undo", y.value(0, 0, 1), 4);
    }

    private static void scenarios() {
        promise("Promise 39");
        NoteDocument x = document(4, 2);
        x.set(0, 0, 0, 1);
        x.set(0, 1, 0, 2);
        x.put(0, 2, 0, x.node(TWO, 0, x.cell(0, 0, 0, false), x.cell(0, 1, 0, false)));
        due("overlay", x.overlay(0, 0, 0, 0, 10), 1);
        due("overlay", x.overlay(0, 0, 1, 0, MOST), 2);
        due("the same cell", x.overlay(0, 0, 1, 0, 20), 2);
        due("another scenario", x.overlay(2, 0, 1, 0, 7), 1);
        due("the value", x.value(0, 2, 0), 3);
        thrown("scenario", ARGUMENT, () -> x.overlay(3, 9, 0, 0, 1));
        thrown("number", ARGUMENT, () -> x.overlay(0, 9, 0, 0, MOST + 1));
        thrown("no such cell", INDEX, () -> x.overlay(0, 0, 4, 0, 1));
        thrown("a formula", STATE, () -> x.overlay(0, 0, 2, 0, 1));
        thrown("nothing", STATE, () -> x.overlay(0, 0, 3, 0, 1));

        promise("Promise 42");
        due("valueIn", x.valueIn(0, 0, 2, 0), 30);
        due("valueIn", x.valueIn(1, 0, 2, 0), 3);
        due("valueIn", x.valueIn(2, 0, 2, 0), 8);
        thrown("scenario", ARGUMENT, () -> x.valueIn(-1, 0, 9, 0));
        thrown("no such cell", INDEX, () -> x.valueIn(0, 0, 9, 0));
        due("no runs", x.runs(), 1);
        x.hold(0, 2, 0, 5);
        due("what is held is as it is", x.valueIn(0, 0, 2, 0), 5);
        x.undo();

        promise("Promise 41");
        x.put(0, 3, 0, x.node(TWO, 3, x.number(1), x.cell(0, 0, 0, false)));
        x.overlay(1, 0, 0, 0, 0);
        due("a number", x.kindIn(0, 0, 3, 0), 1);
        due("an error", x.kindIn(1, 0, 3, 0), 2);
        due("empty", x.kindIn(1, 0, 3, 1), 0);
        thrown("scenario", ARGUMENT, () -> x.kindIn(3, 0, 9, 0));
        thrown("no such cell", INDEX, () -> x.kindIn(0, 0, 0, 2));

        promise("Promise 40");
        due("drop", x.drop(0), 2);
        due("drop", x.drop(0), 0);
        thrown("scenario", ARGUMENT, () -> x.drop(3));
        thrown("scenario", ARGUMENT, () -> x.drop(-1));
        due("the number", x.valueIn(0, 0, 2, 0), 3);
        x.undo();
        x.undo();
        due("undo", x.valueIn(0, 0, 2, 0), 30);
    }

    private static void goals() {
        promise("Promise 43");
        NoteDocument x = document(4, 3);
        x.set(0, 0, 0, 100);
        int a = x.cell(0, 0, 0, false);
        x.put(0, 1, 1, x.node(TWO, 2, a, a));
        due("seek", x.seek(0, 0, 11, 50, 0, 40), 8);
        due("the number wanted", x.seek(0, 0, 11, 49, 0, 40), 7);
        due("from below 0", x.seek(0, 0, 11, 49, -1000, 1), -1000);
        due("none", x.seek(0, 0, 11, 50, 0, 8), 1000000);
        due("the last one", x.seek(0, 0, 11, 50, 0, 9), 8);
        due("the cell itself", x.seek(0, 0, 0, 5, 1, 40), 5);
        due("the number stays", x.value(0, 0, 0), 100);
        due("no runs", x.runs(), 0);
        x.put(0, 2, 1, x.node(TWO, 3, x.number(12), a));
        due("an error is no number", x.seek(0, 0, 21, 1, 0, 5), 1);
        due("what is empty is none", x.seek(0, 0, 32, 0, 0, 5), 1000000);
        thrown("no such grid", INDEX, () -> x.seek(1, 0, 0, 0, 0, 0));
        thrown("no such cell", INDEX, () -> x.seek(0, 3, 0, 0, 0, 0));
        thrown("no such cell", INDEX, () -> x.seek(0, 0, 40, 0, 0, 0));
        thrown("below 0", INDEX, () -> x.seek(0, -1, 0, 0, 0, 0));
        thrown("below 0", INDEX, () -> x.seek(0, 0, -10, 0, 0, 0));
        thrown("least", ARGUMENT, () -> x.seek(0, 11, 0, 0, 1001, 1));
        thrown("least", ARGUMENT, () -> x.seek(0, 0, 0, 0, -1001, 1));
        thrown("many", ARGUMENT, () -> x.seek(0, 0, 0, 0, 0, 0));
        thrown("many", ARGUMENT, () -> x.seek(0, 0, 0, 0, 0, 41));
        thrown("a formula", STATE, () -> x.seek(0, 11, 0, 0, 0, 1));
        thrown("nothing", STATE, () -> x.seek(0, 30, 0, 0, 0, 1));
        x.overlay(0, 0, 0, 0, 3);
        due("the greatest least", x.seek(0, 0, 11, 1000 * 1000, 1000, 1), 1000);
        due("scenarios count for nothing", x.seek(0, 0, 11, 50, 0, 40), 8);
    }

    private static void undone() {
        promise("Promise 44");
        NoteDocument x = document(3, 2);
        thrown("none", STATE, x::undo);
        for (int i = 1; i <= 7; i++) {
            x.set(0, 0, 0, i);
        }
        due("the last 5", x.undo(), 4);
        due("undo", x.value(0, 0, 0), 6);
        for (int i = 3; i >= 0; i--) {
            due("undo", x.undo(), i);
        }
        due("undo", x.value(0, 0, 0), 2);
        thrown("none", STATE, x::undo);
        x.insert(0, 3);
        int far = x.cell(0, 3, 0, false);
        int range = x.node(FOLD, 0, x.range(0, 2, 0, 3, 0), 0);
        x.undo();
        x.put(0, 0, 1, far);
        x.put(0, 1, 1, range);
        due("a cell that is not there any more", x.value(0, 0, 1), 3);
        due("a cell of a range that is not there any more", x.value(0, 1, 1), 3);
        due("is not torn", x.torn(), 0);
        x.insert(0, 3);
        due("moved by rows that come", x.value(0, 0, 1), 3);
        x.insert(0, 0);
        x.set(0, 4, 0, 8);
        due("it is still not there", x.value(0, 1, 1), 3);
        x.setWay(1);
        int runs = x.runs();
        x.undo();
        due("the way stays", x.setWay(1), 1);
        due("runs stay", x.runs(), runs);
        thrown("erase throws", INDEX, () -> x.erase(0, 9, 0));
        int kept = x.undo();
        thrown("a call that throws is not kept", INDEX, () -> x.erase(0, 9, 0));
        due("kept", x.undo(), kept - 1);
        NoteDocument y = document(3, 2);
        y.note();
        y.name(0, y.number(4));
        y.tick(9, 9);
        y.say(0, 3);
        y.put(0, 0, 0, y.leaf(4, 0));
        y.put(0, 1, 0, y.leaf(1, 0));
        due("the clock", y.value(0, 0, 0), 9);
        y.undo();
        y.undo();
        due("the note", y.length(0), 3);
        y.undo();
        due("the note", y.length(0), 0);
        y.undo();
        y.put(0, 0, 0, y.leaf(4, 0));
        due("the clock", y.value(0, 0, 0), 0);
        y.put(0, 0, 0, y.leaf(5, 0));
        due("the counter", y.value(0, 0, 0), 0);
        y.put(0, 0, 0, y.leaf(1, 0));
        due("the name", y.value(0, 0, 0), 4);
    }

    private static void circles() {
        promise("Circles");
        NoteDocument x = document(6, 3);
        int a = x.cell(0, 0, 0, false);
        int b = x.cell(0, 1, 0, false);
        int c = x.cell(0, 2, 0, false);
        int five = x.number(5);
        x.put(0, 0, 0, x.node(TWO, 0, b, c));
        x.put(0, 1, 0, a);
        x.put(0, 2, 0, x.node(ELSE, 0, b, five));
        due("all by way of which it needs itself", x.value(0, 2, 0), 4);
        due("asked for from elsewhere", x.value(0, 0, 0), 4);
        due("arose in each", x.cause(0, 1, 0), 10);
        due("through this one alone", x.through(0, 1, 0), 1);
        due("nothing counts as run", x.runs(), 0);
        NoteDocument y = document(6, 3);
        y.cell(0, 0, 0, false);
        y.cell(0, 1, 0, false);
        y.cell(0, 2, 0, false);
        y.number(5);
        y.put(0, 0, 0, y.node(TWO, 0, b, c));
        y.put(0, 1, 0, a);
        y.put(0, 2, 0, y.node(ELSE, 0, b, five));
        due("asked for in another order", y.value(0, 0, 0), 4);
        due("it is the same", y.value(0, 2, 0), 4);
        due("from nothing", y.valueFromNothing(0, 2, 0), 4);
        y.put(0, 3, 0, y.node(ELSE, 0, a, five));
        due("who is not in it gets the error", y.value(0, 3, 0), 5);
        due("a run", y.runs(), 1);
        y.put(0, 3, 1, a);
        due("through", y.through(0, 3, 1), 2);
        due("cause", y.cause(0, 3, 1), 0);
        y.set(0, 1, 0, 2);
        due("asked for anew", y.value(0, 0, 0), 4);
        y.set(0, 2, 0, 3);
        due("asked for anew", y.value(0, 0, 0), 5);
        y.put(0, 4, 0, y.cell(0, 5, 0, false));
        due("a cell that could spill into what it reads", y.value(0, 4, 0), 4);
        y.put(0, 4, 2, y.node(FOLD, 1, y.leaf(0, 2), 0));
        due("a column with itself", y.value(0, 4, 2), 4);
    }

    public static void main(String[] args) {
        newObject();
        grids();
        contents();
        held();
        leaves();
        twos();
        nodesOfParts();
        whens();
        tornNodes();
        names();
        notes();
        ticks();
        ways();
        reads();
        fromNothing();
        characters();
        counts();
        inserts();
        moves();
        scenarios();
        goals();
        undone();
        circles();
        System.out.println(passed + " passed, " + failed + " failed");
        System.exit(failed == 0 ? 0 : 1);
    }
}
