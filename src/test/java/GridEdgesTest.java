/** The edges of promises 1 to 8: grids, contents, held cells, rounds. */
public final class GridEdgesTest {
    private static final Checks CHECKS = new Checks();
    private static final long MOST = Checks.MOST;

    private static void newObject() {
        CHECKS.promise("Promise 1");
        NoteDocument x = new NoteDocument();
        CHECKS.thrown("no grid", Checks.INDEX, () -> x.rows(0));
        CHECKS.thrown("no note", Checks.INDEX, () -> x.letter(0, 0));
        CHECKS.thrown("no node", Checks.INDEX, () -> x.when(0, 0, 0));
        CHECKS.thrown("nothing is kept", Checks.STATE, x::undo);
        CHECKS.due("nothing to calculate", x.calculate(), 0);
        CHECKS.due("the first grid", x.grid(1, 1), 0);
        CHECKS.due("the first note", x.note(), 0);
        CHECKS.due("the first node", x.leaf(4, 0), 0);
        x.put(0, 0, 0, 0);
        CHECKS.due("the time", Make.shown(x, 0, 0, 0), "0");
        x.put(0, 0, 0, x.leaf(6, 0));
        CHECKS.due("a draw of the seed 0 behind no tick", Make.shown(x, 0, 0, 0), "0");
        for (int f = 0; f < 4; f++) {
            int zero = x.number(0);
            x.put(0, 0, 0, Make.call(x, f, zero, zero));
            CHECKS.due("a function has no body at first", Make.shown(x, 0, 0, 0), "!8");
        }
        for (int i = 0; i < 6; i++) {
            x.put(0, 0, 0, x.leaf(1, i));
            CHECKS.due("a name stands for none at first", Make.shown(x, 0, 0, 0), "!8");
        }
        for (int i = 0; i < 3; i++) {
            CHECKS.due("a scenario has no numbers at first", x.drop(i), 0);
        }
        NoteDocument other = Make.document(1, 1);
        other.set(0, 0, 0, 5);
        CHECKS.due("objects have nothing in common", Make.shown(x, 0, 0, 0), "!8");
        CHECKS.due("by need", x.setWay(0), 0);
    }

    /** An object is used for at most 512 calls. */
    private static void manyCalls() {
        CHECKS.promise("512 calls");
        NoteDocument x = new NoteDocument();
        x.grid(2, 1);
        int first = x.cell(0, 0, 0, false);
        x.put(0, 1, 0, first);
        for (int i = 4; i <= 512; i += 2) {
            x.set(0, 0, 0, i);
            if (i < 512) {
                CHECKS.due("call " + (i + 1), x.value(0, 1, 0), i);
            }
        }
        NoteDocument y = Make.document(1, 1);
        for (int i = 2; i < 512; i++) {
            y.tick(i, 0);
        }
        CHECKS.due("the 512th call", y.tick(0, 0), 511);
    }

    private static void grids() {
        CHECKS.promise("Promise 2");
        NoteDocument x = new NoteDocument();
        int[][] wrong = {{0, 1}, {-1, 1}, {11, 1}, {1, 0}, {1, -1}, {1, 6}, {0, 0}, {11, 6},
            {Integer.MIN_VALUE, 1}, {1, Integer.MAX_VALUE}, {Integer.MAX_VALUE, Integer.MIN_VALUE}};
        for (int[] size : wrong) {
            CHECKS.thrown("out of range", Checks.ARGUMENT, () -> x.grid(size[0], size[1]));
        }
        int[][] right = {{1, 1}, {10, 5}, {1, 5}, {10, 1}};
        for (int i = 0; i < 4; i++) {
            CHECKS.due("a grid refused has no number", x.grid(right[i][0], right[i][1]), i);
        }
        CHECKS.thrown("a fifth one", Checks.STATE, () -> x.grid(1, 1));
        CHECKS.thrown("a fifth one out of range", Checks.ARGUMENT, () -> x.grid(11, 1));
        for (int i = 0; i < 4; i++) {
            int grid = i;
            int last = right[i][0] - 1;
            int lastColumn = right[i][1] - 1;
            CHECKS.due("rows", x.rows(i), right[i][0]);
            x.set(i, last, lastColumn, i);
            CHECKS.due("the last cell", x.value(i, last, lastColumn), i);
            CHECKS.thrownBy("behind the last row", Checks.INDEX, () -> x.set(grid, last + 1, 0, 0));
            CHECKS.thrownBy("behind the last column", Checks.INDEX, () -> x.set(grid, 0, lastColumn + 1, 0));
        }
        x.undo();
        CHECKS.thrown("undone never", Checks.STATE, () -> x.grid(1, 1));

        CHECKS.promise("Promise 3");
        CHECKS.thrown("rows(-1)", Checks.INDEX, () -> x.rows(-1));
        CHECKS.thrown("rows(4)", Checks.INDEX, () -> x.rows(4));
        CHECKS.thrown("rows of the least int", Checks.INDEX, () -> x.rows(Integer.MIN_VALUE));
        CHECKS.due("behind a removal", x.remove(3, 0) * 0 + x.rows(3), 9);
        CHECKS.due("behind an insert", x.insert(3, 9), x.rows(3));
        x.undo();
        CHECKS.due("behind undo", x.rows(3), 9);
    }

    private static void set() {
        CHECKS.promise("Promise 4");
        NoteDocument x = Make.document(2, 2);
        for (long number : new long[] {-MOST, -1, 0, 1, MOST}) {
            x.set(0, 1, 1, number);
            CHECKS.due("a number", Make.shown(x, 0, 1, 1), "" + number);
        }
        for (long number : new long[] {MOST + 1, -MOST - 1, Long.MAX_VALUE, Long.MIN_VALUE}) {
            CHECKS.thrownBy("out of range", Checks.ARGUMENT, () -> x.set(0, 0, 0, number));
            CHECKS.thrownBy("out of range, no such cell", Checks.INDEX, () -> x.set(0, 0, 2, number));
        }
        int[][] wrong = {{-1, 0, 0}, {1, 0, 0}, {0, -1, 0}, {0, 2, 0}, {0, 0, -1}, {0, 0, 2},
            {Integer.MAX_VALUE, 0, 0}, {0, Integer.MIN_VALUE, 0}, {0, 0, Integer.MAX_VALUE}};
        for (int[] at : wrong) {
            CHECKS.thrownBy("no such cell", Checks.INDEX, () -> x.set(at[0], at[1], at[2], 0));
            CHECKS.thrownBy("put: no such cell", Checks.INDEX, () -> x.put(at[0], at[1], at[2], 0));
            CHECKS.thrown("erase: no such cell", Checks.INDEX, () -> x.erase(at[0], at[1], at[2]));
            CHECKS.thrown("hold: no such cell", Checks.INDEX, () -> x.hold(at[0], at[1], at[2], 0));
            CHECKS.thrown("kind: no such cell", Checks.INDEX, () -> x.kind(at[0], at[1], at[2]));
            CHECKS.thrown("value: no such cell", Checks.INDEX, () -> x.value(at[0], at[1], at[2]));
            CHECKS.thrown("spills: no such cell", Checks.INDEX, () -> x.spills(at[0], at[1], at[2]));
            CHECKS.thrown("through: no such cell", Checks.INDEX, () -> x.through(at[0], at[1], at[2]));
            CHECKS.thrown("cause: no such cell", Checks.INDEX, () -> x.cause(at[0], at[1], at[2]));
            CHECKS.thrown("kindFromNothing", Checks.INDEX, () -> x.kindFromNothing(at[0], at[1], at[2]));
            CHECKS.thrown("valueFromNothing", Checks.INDEX, () -> x.valueFromNothing(at[0], at[1], at[2]));
            CHECKS.thrown("kindIn", Checks.INDEX, () -> x.kindIn(0, at[0], at[1], at[2]));
            CHECKS.thrown("valueIn", Checks.INDEX, () -> x.valueIn(2, at[0], at[1], at[2]));
            CHECKS.thrown("overlay", Checks.INDEX, () -> x.overlay(1, at[0], at[1], at[2], 0));
            CHECKS.thrown("cell", Checks.INDEX, () -> x.cell(at[0], at[1], at[2], false));
        }
        CHECKS.due("the last cell is as it was", Make.all(x, 0, 2), "- - / - " + MOST);
        int five = x.number(5);
        x.put(0, 0, 0, five);
        x.hold(0, 0, 0, 7);
        x.set(0, 0, 0, 8);
        CHECKS.due("it is held no more", x.rounds(1), 0);
        x.put(0, 0, 0, five);
        CHECKS.due("nor behind another formula", x.value(0, 0, 0), 5);
        x.set(0, 0, 0, 1);
        x.overlay(0, 0, 0, 0, 50);
        x.set(0, 0, 0, 2);
        CHECKS.due("numbers of scenarios stay", x.valueIn(0, 0, 0, 0), 50);
        x.undo();
        CHECKS.due("undoable", x.value(0, 0, 0), 1);
    }

    private static void putAndErase() {
        CHECKS.promise("Promise 5");
        NoteDocument x = Make.document(3, 2);
        CHECKS.thrownBy("no nodes", Checks.INDEX, () -> x.put(0, 0, 0, 0));
        int five = x.number(5);
        int six = x.number(6);
        for (int node : new int[] {-1, 2, 150, Integer.MIN_VALUE, Integer.MAX_VALUE}) {
            CHECKS.thrownBy("no such node", Checks.INDEX, () -> x.put(0, 0, 0, node));
        }
        x.set(0, 0, 0, 1);
        for (int i = 0; i < 3; i++) {
            x.overlay(i, 0, 0, 0, 50);
        }
        x.put(0, 0, 0, five);
        for (int i = 0; i < 3; i++) {
            CHECKS.due("numbers of all scenarios are dropped", x.drop(i), 0);
        }
        x.put(0, 0, 0, six);
        x.hold(0, 0, 0, 7);
        x.put(0, 0, 0, six);
        CHECKS.due("held no more, by the same node, too", x.value(0, 0, 0), 6);
        x.undo();
        CHECKS.due("undoable", x.value(0, 0, 0), 7);

        CHECKS.promise("Promise 6");
        CHECKS.due("a held formula", x.erase(0, 0, 0), 2);
        CHECKS.due("nothing", x.erase(0, 0, 0), 0);
        CHECKS.due("nothing", x.erase(0, 2, 1), 0);
        x.set(0, 0, 0, 0);
        x.overlay(2, 0, 0, 0, 4);
        CHECKS.due("the number 0", x.erase(0, 0, 0), 1);
        CHECKS.due("numbers of scenarios are dropped", x.drop(2), 0);
        CHECKS.due("what is empty", Make.shown(x, 0, 0, 0), "-");
        x.undo();
        x.undo();
        CHECKS.due("undoable", x.valueIn(2, 0, 0, 0), 4);
        int kept = x.undo();
        x.erase(0, 2, 1);
        CHECKS.due("kept, though there was nothing", x.undo(), kept);
    }

    private static void hold() {
        CHECKS.promise("Promise 7");
        NoteDocument x = Make.document(4, 2);
        int three = Make.upTo(x, 3);
        x.put(0, 0, 0, three);
        for (long first : new long[] {MOST + 1, -MOST - 1, Long.MIN_VALUE}) {
            CHECKS.thrown("out of range", Checks.ARGUMENT, () -> x.hold(0, 0, 0, first));
            CHECKS.thrown("out of range, no formula", Checks.ARGUMENT, () -> x.hold(0, 3, 0, first));
            CHECKS.thrown("out of range, no cell", Checks.INDEX, () -> x.hold(0, 4, 0, first));
        }
        CHECKS.thrown("what is spilled into has no formula", Checks.STATE, () -> x.hold(0, 1, 0, 0));
        CHECKS.due("by spill", Make.all(x, 0, 1), "1 / 2 / 3 / -");
        for (long first : new long[] {MOST, -MOST, 0}) {
            CHECKS.due("held", x.hold(0, 0, 0, first));
            CHECKS.due("who reads it gets what is held", Make.all(x, 0, 1), first + " / - / - / -");
            CHECKS.due("of one value", x.spills(0, 0, 0), 1);
            CHECKS.due("no error", x.through(0, 0, 0), 0);
            CHECKS.due("no error", x.cause(0, 0, 0), -1);
            CHECKS.due("from nothing", x.valueFromNothing(0, 0, 0), first);
            CHECKS.due("nor from nothing does it spill", x.kindFromNothing(0, 1, 0), 0);
            CHECKS.due("held no more", !x.hold(0, 0, 0, Long.MAX_VALUE));
        }
        CHECKS.due("it was run once, and is not run for being held", x.runs(), 1);
        CHECKS.due("it spills again", Make.all(x, 0, 1), "1 / 2 / 3 / -");
        CHECKS.due("not run anew", x.runs(), 1);
        x.undo();
        CHECKS.due("undoable", Make.all(x, 0, 1), "0 / - / - / -");
        int whole = Make.spill(x, 0, 0);
        x.put(0, 0, 1, Make.fold(x, Make.FOLD_COUNT, whole));
        CHECKS.due("SPILL of what is held is no row", Make.shown(x, 0, 0, 1), "!6");
        x.hold(0, 0, 0, 0);
        CHECKS.due("SPILL of what is held no more", Make.shown(x, 0, 0, 1), "3");
        x.set(0, 2, 0, 1);
        x.hold(0, 0, 0, 4);
        CHECKS.due("held, though it is blocked", Make.shown(x, 0, 0, 0), "4");
    }

    private static void rounds() {
        CHECKS.promise("Promise 8");
        NoteDocument x = Make.document(6, 2);
        for (int bound : new int[] {0, -1, 51, Integer.MIN_VALUE, Integer.MAX_VALUE}) {
            CHECKS.thrown("bound", Checks.ARGUMENT, () -> x.rounds(bound));
        }
        CHECKS.due("no held cells", x.rounds(50), 0);
        CHECKS.due("kept, though nothing changed", x.undo(), 0);
        int one = x.number(1);
        x.put(0, 0, 0, Make.two(x, Make.ADD, Make.cell(x, 0, 0), one));
        x.hold(0, 0, 0, 0);
        CHECKS.due("the least bound", x.rounds(1), 1);
        CHECKS.due("one round", x.value(0, 0, 0), 1);
        CHECKS.due("the greatest bound", x.rounds(50), 50);
        CHECKS.due("fifty rounds", x.value(0, 0, 0), 51);
        CHECKS.due("a run each", x.runs(), 51);
        x.undo();
        CHECKS.due("undone at once", x.value(0, 0, 0), 1);
        CHECKS.due("how often formulas were run stays", x.runs(), 51);
        x.hold(0, 0, 0, 0);
        x.hold(0, 0, 0, MOST - 1);
        CHECKS.due("to the greatest number", x.rounds(50), 1);
        CHECKS.due("what is out of range is an error, by which it stays", x.value(0, 0, 0), MOST);
        stops();
        allAtOnce();
        ways();
    }

    private static void stops() {
        NoteDocument x = Make.document(6, 2);
        int self = Make.cell(x, 0, 0);
        x.put(0, 0, 0, Make.two(x, 5, x.number(3), Make.two(x, Make.ADD, self, x.number(1))));
        x.hold(0, 0, 0, 0);
        CHECKS.due("as many as change", x.rounds(3), 3);
        CHECKS.due("none changes any more", x.rounds(3), 0);
        CHECKS.due("that round ran it once", x.runs(), 4);
        CHECKS.due("nor now", x.rounds(50), 0);
        CHECKS.due("nothing was run", x.runs(), 4);
        Make.Formula[] stay = {Make::error, y -> Make.upTo(y, 2), y -> y.leaf(1, 0), y -> Make.upTo(y, 7)};
        for (Make.Formula formula : stay) {
            NoteDocument y = Make.document(6, 2);
            y.put(0, 0, 0, formula.in(y));
            y.hold(0, 0, 0, -7);
            CHECKS.due("an error or a row", y.rounds(5), 0);
            CHECKS.due("it stays", Make.shown(y, 0, 0, 0), "-7");
            CHECKS.due("it was run", y.runs(), 1);
        }
        NoteDocument z = Make.document(10, 1);
        z.put(0, 0, 0, Make.empty(z));
        z.hold(0, 0, 0, 3);
        CHECKS.due("empty", z.rounds(5), 1);
        CHECKS.due("as 0", Make.shown(z, 0, 0, 0), "0");
        z.put(0, 0, 0, Make.upTo(z, 1));
        z.hold(0, 0, 0, 3);
        CHECKS.due("a row of one value is that value", z.rounds(5), 1);
        CHECKS.due("that value", Make.shown(z, 0, 0, 0), "1");
    }

    /** Two cells that hold each other's number, and one that reads a cell by way of one not held. */
    private static void allAtOnce() {
        NoteDocument x = Make.document(6, 2);
        x.put(0, 0, 0, Make.cell(x, 1, 0));
        x.put(0, 1, 0, Make.cell(x, 0, 0));
        x.hold(0, 0, 0, 1);
        x.hold(0, 1, 0, 2);
        CHECKS.due("they change places for ever", x.rounds(49), 49);
        CHECKS.due("an uneven number of times", Make.all(x, 0, 1), "2 / 1 / - / - / - / -");
        x.put(0, 2, 0, Make.cell(x, 0, 0));
        x.put(0, 3, 0, Make.cell(x, 2, 0));
        x.hold(0, 3, 0, 9);
        CHECKS.due("a round", x.rounds(1), 1);
        CHECKS.due("by way of what is not held, as it was ahead of the round", Make.all(x, 0, 1),
            "1 / 2 / 1 / 2 / - / -");
    }

    private static void ways() {
        NoteDocument x = Make.document(3, 2);
        int self = Make.cell(x, 0, 0);
        x.put(0, 0, 0, Make.two(x, Make.ADD, self, x.number(1)));
        x.put(0, 1, 0, self);
        x.hold(0, 0, 0, 5);
        x.setWay(2);
        CHECKS.due("nothing was found", Make.all(x, 0, 1), "5 / - / -");
        CHECKS.due("by hand rounds ask, too", x.rounds(2), 2);
        CHECKS.due("for held cells alone", Make.all(x, 0, 1), "7 / - / -");
        CHECKS.due("runs", x.runs(), 2);
        x.setWay(1);
        CHECKS.due("all is asked for, held cells, too", x.runs(), 4);
        x.rounds(1);
        CHECKS.due("a round, then all", x.runs(), 6);
        CHECKS.due("all", Make.all(x, 0, 1), "8 / 8 / -");
    }

    public static void main(String[] args) {
        newObject();
        manyCalls();
        grids();
        set();
        putAndErase();
        hold();
        rounds();
        CHECKS.end();
    }
}
