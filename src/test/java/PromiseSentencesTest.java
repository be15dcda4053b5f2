import java.io.IOException;
import java.util.ArrayList;
import java.util.List;

/** The document's promises, line by line. */
public final class PromiseSentencesTest {
    private static final Checks CHECKS = new Checks();
    private static final Sentences SENTENCES = new Sentences(CHECKS);
    private static final long MOST = Checks.MOST;
    private static final String NO_CELL = "Throws `IndexOutOfBoundsException` if there is no such cell";
    private static final String FULL = "Throws `IllegalStateException` if there are 150 nodes";
    private static final String FULL_OR_HEAVY = FULL + ", or it would be too heavy";
    private static final String NUMBER_RANGE = "Throws `IllegalArgumentException` if number is out of range";

    private static void promise(int number, String name) {
        SENTENCES.part("Promise " + number + ": " + name);
    }

    private static void says(String sentence) {
        SENTENCES.says(sentence);
    }

    private static void due(String what, Object got, Object want) {
        CHECKS.due(what, got, want);
    }

    private static void due(String what, long got, long want) {
        CHECKS.due(what, got, want);
    }

    private static void index(Checks.Call call) {
        CHECKS.thrown("throws", Checks.INDEX, call);
    }

    private static void argument(Checks.Call call) {
        CHECKS.thrown("throws", Checks.ARGUMENT, call);
    }

    private static void state(Checks.Call call) {
        CHECKS.thrown("throws", Checks.STATE, call);
    }

    private static boolean allowed(Checks.Call call) {
        return Checks.outcome(call).startsWith("the answer");
    }

    /** A call of a cell. */
    private interface OfCell {
        Object answer(NoteDocument x, int grid, int row, int column);
    }

    private interface Step {
        void go(NoteDocument x);
    }

    /** No such cell: in no grid, behind its last row, its last column, or below 0. */
    private static void noCell(OfCell call) {
        says(NO_CELL);
        cells(call);
    }

    private static void cells(OfCell call) {
        NoteDocument x = filled();
        int[][] none = {{-1, 0, 0}, {2, 0, 0}, {0, -1, 0}, {0, 3, 0}, {1, 2, 0}, {0, 0, -1}, {0, 0, 2}, {1, 0, 3},
            {Integer.MAX_VALUE, 0, 0}, {0, Integer.MIN_VALUE, 0}, {0, 0, Integer.MIN_VALUE}};
        for (int[] at : none) {
            index(() -> call.answer(x, at[0], at[1], at[2]));
        }
    }

    /** Two grids, of 3 rows and 2 columns, and of 2 rows and 3 columns, with a number, a formula and a note. */
    private static NoteDocument filled() {
        NoteDocument x = new NoteDocument();
        x.grid(3, 2);
        x.grid(2, 3);
        x.note();
        int node = x.number(4);
        x.set(0, 0, 0, 3);
        x.put(0, 1, 0, node);
        return x;
    }

    /** A call is undoable: undo() takes back what it does, and is told of it. */
    private static void undoable(Step call) {
        says("Undoable.");
        NoteDocument x = filled();
        NoteDocument y = filled();
        String before = all(x);
        int kept = y.undo();
        call.go(x);
        due("it does something", all(x).equals(before), false);
        due("it is kept", x.undo(), kept + 1);
        due("it is undone", all(x), before);
    }

    /** All that can be read of a filled document, with what its names, functions and scenarios come to. */
    private static String all(NoteDocument x) {
        StringBuilder text = new StringBuilder(Make.all(x, 0, 2) + " | " + Make.all(x, 1, 3) + " | " + Make.text(x, 0));
        for (int i = 0; i < 3; i++) {
            text.append(' ').append(x.valueIn(i, 0, 0, 0));
        }
        int[] nodes = {x.leaf(1, 0), Make.call(x, 0, 0, 0), x.leaf(4, 0), x.leaf(5, 0), x.leaf(6, 0)};
        for (int node : nodes) {
            x.put(1, 1, 2, node);
            text.append(' ').append(Make.shown(x, 1, 1, 2));
            x.undo();
        }
        return text.toString();
    }

    private static void noRoom(Checks.Call one, NoteDocument x) {
        Make.nodes(x, 150);
        state(one);
    }

    private static void grids() {
        promise(1, "A new object");
        says("Begins without grids, notes and nodes, at the time 0, with the seed 0.");
        NoteDocument x = new NoteDocument();
        index(() -> x.rows(0));
        index(() -> x.length(0));
        index(() -> x.node(7, 0, 0, 0));
        x.grid(1, 3);
        x.put(0, 0, 0, x.leaf(4, 0));
        x.put(0, 0, 1, x.leaf(5, 0));
        x.put(0, 0, 2, x.leaf(6, 7));
        due("the time, the ticks, a draw of the seed 0", Make.all(x, 0, 3), "0 0 " + 7919 * 7 % 1000);

        promise(2, "grid");
        says("Makes a grid.");
        NoteDocument y = new NoteDocument();
        says("Returns its number.");
        due("the first one", y.grid(2, 3), 0);
        due("the second one", y.grid(1, 1), 1);
        due("it is there", Make.all(y, 0, 3), "- - - / - - -");
        says("Undone never.");
        y.set(0, 0, 0, 1);
        y.grid(2, 2);
        y.undo();
        due("it stays", y.rows(2), 2);
        state(y::undo);
        says("`rows`: 1 to 10");
        due("1 and 10", allowed(() -> new NoteDocument().grid(1, 1)) && allowed(() -> new NoteDocument().grid(10, 1)), true);
        says("`columns`: 1 to 5");
        due("1 and 5", allowed(() -> new NoteDocument().grid(2, 1)) && allowed(() -> new NoteDocument().grid(2, 5)), true);
        says("Throws `IllegalArgumentException` if rows or columns is out of range");
        argument(() -> y.grid(0, 1));
        argument(() -> y.grid(11, 1));
        argument(() -> y.grid(1, 0));
        argument(() -> y.grid(1, 6));
        says("Throws `IllegalStateException` if there are 4");
        due("the fourth one", y.grid(1, 1), 3);
        state(() -> y.grid(1, 1));
        argument(() -> y.grid(1, 6));

        promise(3, "rows");
        says("Returns how many rows a grid has.");
        due("two", y.rows(0), 2);
        y.insert(0, 1);
        due("one more", y.rows(0), 3);
        says("Throws `IndexOutOfBoundsException` if there is no such grid");
        index(() -> y.rows(4));
        index(() -> y.rows(-1));
    }

    private static void contents() {
        promise(4, "set");
        says("Sets the content of a cell to a number; a held cell is held no more.");
        NoteDocument x = filled();
        x.hold(0, 1, 0, 60);
        x.set(0, 1, 0, 70);
        due("a number", Make.shown(x, 0, 1, 0), "70");
        x.put(0, 1, 0, 0);
        due("held no more", Make.shown(x, 0, 1, 0), "4");
        undoable(y -> y.set(0, 0, 0, 5));
        noCell((y, grid, row, column) -> {
            y.set(grid, row, column, MOST + 1);
            return "";
        });
        says(NUMBER_RANGE);
        CHECKS.thrownBy("too great", Checks.ARGUMENT, () -> x.set(0, 0, 0, MOST + 1));
        CHECKS.thrownBy("too small", Checks.ARGUMENT, () -> x.set(0, 0, 0, -MOST - 1));

        promise(5, "put");
        says("Sets the content of a cell to a formula; a held cell is held no more, and numbers that scenarios have for it "
            + "are dropped.");
        x.hold(0, 1, 0, 60);
        x.put(0, 1, 0, 0);
        due("held no more", Make.shown(x, 0, 1, 0), "4");
        for (int i = 0; i < 3; i++) {
            x.overlay(i, 0, 0, 0, 9);
        }
        x.put(0, 0, 0, x.number(6));
        due("a formula", Make.shown(x, 0, 0, 0), "6");
        due("dropped", x.drop(0) + x.drop(1) + x.drop(2), 0);
        undoable(y -> y.put(0, 0, 0, 0));
        says(NO_CELL + " or node");
        cells((y, grid, row, column) -> {
            y.put(grid, row, column, 0);
            return "";
        });
        for (int node : new int[] {-1, 1, 150}) {
            CHECKS.thrownBy("no node", Checks.INDEX, () -> filled().put(0, 0, 0, node));
        }

        promise(6, "erase");
        says("Takes the content of a cell away; likewise.");
        NoteDocument y = filled();
        y.overlay(2, 0, 0, 0, 9);
        y.hold(0, 1, 0, 60);
        says("Returns what it was: 0 nothing, 1 a number, 2 a formula.");
        due("a number", y.erase(0, 0, 0), 1);
        due("a held formula", y.erase(0, 1, 0), 2);
        due("nothing", y.erase(0, 1, 0), 0);
        due("away", Make.all(y, 0, 2), "- - / - - / - -");
        due("numbers of scenarios are dropped", y.drop(2), 0);
        y.put(0, 1, 0, 0);
        due("held no more", Make.shown(y, 0, 1, 0), "4");
        undoable(z -> z.erase(0, 0, 0));
        noCell(NoteDocument::erase);
    }

    private static void held() {
        promise(7, "hold");
        says("Holds a cell, or holds it no more, if it is held.");
        NoteDocument x = filled();
        says("Returns whether it is held then.");
        due("held", x.hold(0, 1, 0, -8), true);
        says("`first`: the number that it holds first; counts for nothing if it is held");
        due("first", Make.shown(x, 0, 1, 0), "-8");
        due("no more", x.hold(0, 1, 0, Long.MIN_VALUE), false);
        due("no more", Make.shown(x, 0, 1, 0), "4");
        undoable(y -> y.hold(0, 1, 0, 1));
        noCell((y, grid, row, column) -> y.hold(grid, row, column, MOST + 1));
        says("Throws `IllegalArgumentException` if first is out of range, and the cell is not held");
        argument(() -> x.hold(0, 1, 0, MOST + 1));
        argument(() -> x.hold(0, 0, 0, -MOST - 1));
        due("the greatest", allowed(() -> x.hold(0, 1, 0, MOST)), true);
        says("Throws `IllegalStateException` if it has no formula");
        state(() -> x.hold(0, 0, 0, MOST));
        state(() -> x.hold(0, 0, 1, 0));

        promise(8, "rounds");
        says("Does rounds, until none of the held numbers changes in one, or as many as the bound tells.");
        NoteDocument y = filled();
        y.put(0, 1, 0, Make.two(y, 5, Make.two(y, Make.ADD, Make.cell(y, 1, 0), y.number(1)), Make.cell(y, 0, 0)));
        y.hold(0, 1, 0, 0);
        says("Returns how many rounds changed something.");
        due("as many as the bound tells", y.rounds(2) * 10 + y.value(0, 1, 0), 22);
        due("until none changes", y.rounds(2) * 10 + y.value(0, 1, 0), 13);
        due("none", y.rounds(50) * 10 + y.value(0, 1, 0), 3);
        undoable(z -> {
            z.hold(0, 1, 0, 0);
            z.rounds(1);
            z.undo();
            due("the round alone is undone", Make.shown(z, 0, 1, 0), "0");
            z.hold(0, 1, 0, 0);
            z.undo();
            z.rounds(1);
            z.undo();
        });
        says("`bound`: 1 to 50");
        due("1 and 50", allowed(() -> y.rounds(1)) && allowed(() -> y.rounds(50)), true);
        says("Throws `IllegalArgumentException` if bound is out of range");
        argument(() -> y.rounds(0));
        argument(() -> y.rounds(51));
    }

    private static void leaves() {
        promise(9, "number");
        says("Makes a NUMBER.");
        due("a number", Make.of(y -> y.number(-MOST)), "" + -MOST);
        says(NUMBER_RANGE);
        NoteDocument x = filled();
        argument(() -> x.number(MOST + 1));
        argument(() -> x.number(-MOST - 1));
        says(FULL);
        noRoom(() -> x.number(0), x);

        promise(10, "cell");
        says("Makes a CELL or a SPILL.");
        says("`isSpill`: whether it is a SPILL");
        for (boolean isSpill : new boolean[] {false, true}) {
            due("a row as a row, or its first one", Make.of(y -> {
                y.put(0, 0, 0, Make.upTo(y, 3));
                return y.cell(0, 0, 0, isSpill);
            }), isSpill ? "1 2 3" : "1");
        }
        noCell((y, grid, row, column) -> y.cell(grid, row, column, true));
        says(FULL);
        state(() -> x.cell(0, 0, 0, false));
        index(() -> x.cell(0, 9, 0, false));

        promise(11, "range");
        says("Makes a RANGE.");
        due("a range", Make.of(y -> Make.row(y, 5, 6)), "5 6");
        says("`toRow`: row or more");
        says("`toColumn`: column or more");
        NoteDocument z = filled();
        due("the same", allowed(() -> z.range(0, 1, 1, 1, 1)), true);
        due("more", allowed(() -> z.range(0, 0, 0, 2, 1)), true);
        says(NO_CELL + ", of both");
        cells((y, grid, row, column) -> y.range(grid, row, column, 0, 0));
        cells((y, grid, row, column) -> y.range(grid, 0, 0, row, column));
        says("Throws `IllegalArgumentException` if toRow is below row, or toColumn below column");
        argument(() -> z.range(0, 1, 0, 0, 1));
        argument(() -> z.range(0, 0, 1, 1, 0));
        says(FULL);
        state(() -> x.range(0, 0, 0, 0, 0));
        argument(() -> x.range(0, 1, 0, 0, 0));

        promise(12, "leaf");
        says("Makes a node without parts.");
        says("`kind`: 0 COLUMN of a grid, by 10 times the grid and the column, together; 1 NAME; 2 GIVEN; 3 LENGTH of a "
            + "note; 4 CLOCK; 5 COUNTER; 6 DRAW");
        NoteDocument v = filled();
        v.set(1, 1, 2, 11);
        v.name(5, v.number(12));
        v.say(0, 13);
        v.tick(14, 1);
        v.define(0, v.leaf(2, 1));
        int[] kinds = {Make.item(v, v.leaf(0, 12), v.number(2)), v.leaf(1, 5), Make.call(v, 0, 0, v.number(10)),
            v.leaf(3, 0), v.leaf(4, 0), v.leaf(5, 0), v.leaf(6, 9)};
        long[] wants = {11, 12, 10, 13, 14, 1, 7919L * ((31 + 1) * 31 + 9) % 1000};
        for (int i = 0; i < kinds.length; i++) {
            v.put(0, 2, 1, kinds[i]);
            due("kind " + i, v.value(0, 2, 1), wants[i]);
        }
        says("`of`: which; for CLOCK and COUNTER it counts for nothing");
        for (int of : new int[] {-1, 10, Integer.MIN_VALUE, Integer.MAX_VALUE}) {
            due("nothing", allowed(() -> v.leaf(4, of)) && allowed(() -> v.leaf(5, of)), true);
        }
        says("Throws `IllegalArgumentException` if kind is out of range, or there is no such grid, column, name, given "
            + "thing, note or draw");
        int[][] none = {{-1, 0}, {7, 0}, {0, 20}, {0, 2}, {0, 13}, {0, -1}, {1, 6}, {1, -1}, {2, 2}, {2, -1}, {3, 1},
            {3, -1}, {6, 10}, {6, -1}};
        for (int[] leaf : none) {
            argument(() -> v.leaf(leaf[0], leaf[1]));
        }
        says(FULL);
        state(() -> x.leaf(4, 0));
        argument(() -> x.leaf(7, 0));
    }

    private static void nodes() {
        promise(13, "node");
        says("Makes a node of one or two parts.");
        says("`kind`: 0 TWO, 1 FOLD, 2 LIST, 3 ITEM, 4 PICK, 5 CALL, 6 EACH, 7 ELSE");
        String[] wants = {"7", "!6", "1 2 3", "!6", "!4", "34", "!6", "3"};
        for (int i = 0; i < 8; i++) {
            int kind = i;
            due("kind " + i, Make.of(y -> {
                y.define(0, Make.two(y, Make.ADD, Make.two(y, Make.MULTIPLY, y.leaf(2, 0), y.number(10)), y.leaf(2, 1)));
                int three = y.number(kind == 4 ? 0 : 3);
                return y.node(kind, 0, three, y.number(4));
            }), wants[i]);
        }
        says("`sign`: 0 to 9 for TWO, 0 to 3 for FOLD and LIST, the grid for PICK, the function for CALL and EACH; for "
            + "others it counts for nothing");
        int[] most = {9, 3, 3, Integer.MAX_VALUE, 1, 3, 3, Integer.MAX_VALUE};
        says("`first`: a node");
        says("`second`: a node; for FOLD and LIST it counts for nothing");
        says("Throws `IllegalArgumentException` if kind or sign is out of range, or there is no such grid");
        NoteDocument x = filled();
        for (int i = 0; i < 8; i++) {
            int kind = i;
            boolean isAny = most[i] > 9;
            due("the least sign", allowed(() -> x.node(kind, isAny ? Integer.MIN_VALUE : 0, 0, 0)), true);
            due("the greatest sign", allowed(() -> x.node(kind, most[kind], 0, 0)), true);
            due("below", allowed(() -> x.node(kind, -1, 0, 0)), isAny);
            due("above", allowed(() -> x.node(kind, isAny ? 10 : most[kind] + 1, 0, 0)), isAny);
            due("second counts for nothing", allowed(() -> x.node(kind, 0, 0, -1)), kind == 1 || kind == 2);
        }
        argument(() -> x.node(8, 0, 0, 0));
        argument(() -> x.node(-1, 0, -1, -1));
        argument(() -> x.node(0, 10, -1, -1));
        argument(() -> x.node(4, 2, -1, -1));
        says("Throws `IndexOutOfBoundsException` if there is no such node");
        index(() -> x.node(0, 0, 149, 0));
        index(() -> x.node(0, 0, -1, 0));
        index(() -> x.node(0, 0, 0, 149));
        index(() -> x.node(1, 0, 149, 0));
        says(FULL_OR_HEAVY);
        int heavy = Make.weighing(x, 39);
        state(() -> Make.two(x, 0, heavy, 0));
        due("not too heavy", allowed(() -> Make.fold(x, 0, heavy)), true);
        noRoom(() -> x.node(0, 0, 0, 0), x);
        index(() -> x.node(0, 0, 0, 150));

        promise(14, "when");
        says("Makes a WHEN.");
        due("the second one", Make.of(y -> y.when(y.number(1), y.number(5), y.number(6))), "5");
        due("the third one", Make.of(y -> y.when(y.number(0), y.number(5), y.number(6))), "6");
        says("Throws `IndexOutOfBoundsException` if there is no such node, of the three");
        for (int node : new int[] {-1, 150}) {
            index(() -> x.when(node, 0, 0));
            index(() -> x.when(0, node, 0));
            index(() -> x.when(0, 0, node));
        }
        says(FULL_OR_HEAVY);
        state(() -> x.when(0, 0, 0));
        NoteDocument y = filled();
        int most38 = Make.weighing(y, 38);
        int most37 = Make.weighing(y, 37);
        state(() -> y.when(0, most38, 0));
        due("not too heavy", allowed(() -> y.when(0, most37, 0)), true);

        promise(15, "torn");
        says("Returns how many nodes are torn.");
        due("none", y.torn(), 0);
        y.cell(0, 2, 0, false);
        y.cell(0, 2, 1, true);
        y.range(0, 2, 0, 2, 1);
        y.leaf(0, 0);
        due("three", y.remove(0, 2) * 10 + y.torn(), 33);
        y.undo();
        due("none again", y.torn(), 0);
    }

    private static void names() {
        promise(16, "name");
        says("Lets a name stand for a node, or for none.");
        NoteDocument x = filled();
        x.put(0, 2, 0, x.leaf(1, 5));
        x.name(5, 0);
        due("a node", Make.shown(x, 0, 2, 0), "4");
        x.name(5, -1);
        due("none", Make.shown(x, 0, 2, 0), "!8");
        undoable(y -> y.name(0, 0));
        says("`name`: 0 to 5");
        says("Throws `IllegalArgumentException` if name is out of range");
        says("`node`: a node, or -1");
        says("Throws `IndexOutOfBoundsException` if node is neither -1 nor a node");
        ofTwo(x::name, 5);

        promise(17, "define");
        says("Gives a function a body, or none.");
        x.put(0, 2, 0, Make.call(x, 3, 0, 0));
        x.define(3, 0);
        due("a body", Make.shown(x, 0, 2, 0), "4");
        x.define(3, -1);
        due("none", Make.shown(x, 0, 2, 0), "!8");
        undoable(y -> y.define(0, 0));
        says("`function`: 0 to 3");
        says("Throws `IllegalArgumentException` if function is out of range");
        says("`node`: a node, or -1");
        says("Throws `IndexOutOfBoundsException` if node is neither -1 nor a node");
        ofTwo(x::define, 3);
    }

    private interface OfTwo {
        void go(int which, int node);
    }

    private static void ofTwo(OfTwo call, int last) {
        for (int which : new int[] {0, last}) {
            due("none", Checks.outcome(() -> call.go(which, -1)), "the answer none");
            due("a node", Checks.outcome(() -> call.go(which, 0)), "the answer none");
            CHECKS.thrownBy("no node", Checks.INDEX, () -> call.go(which, -2));
            CHECKS.thrownBy("no node", Checks.INDEX, () -> call.go(which, 150));
        }
        CHECKS.thrownBy("below, ahead of the node", Checks.ARGUMENT, () -> call.go(-1, -2));
        CHECKS.thrownBy("above, ahead of the node", Checks.ARGUMENT, () -> call.go(last + 1, 150));
        CHECKS.thrownBy("above", Checks.ARGUMENT, () -> call.go(last + 1, -1));
    }

    private static void notes() {
        promise(18, "note");
        says("Makes an empty note.");
        NoteDocument x = Make.document(2, 1);
        says("Returns its number, from 0.");
        for (int i = 0; i < 3; i++) {
            due("its number", x.note(), i);
            due("empty", x.length(i), 0);
        }
        says("Throws `IllegalStateException` if there are 3");
        state(x::note);
        says("Undone never.");
        state(x::undo);
        x.set(0, 0, 0, 1);
        x.undo();
        due("they stay", x.length(2), 0);

        promise(19, "say");
        says("Adds letters to a note.");
        says("Returns how many parts it has then.");
        says("`letters`: 1 to 20");
        due("the first part", x.say(2, 1), 1);
        due("the second part", x.say(2, 20), 2);
        due("letters", Make.text(x, 2), "aaaaaaaaaaaaaaaaaaaaa");
        undoable(y -> y.say(0, 2));
        says("Throws `IndexOutOfBoundsException` if there is no such note");
        index(() -> x.say(3, 0));
        index(() -> x.say(-1, 1));
        says("Throws `IllegalArgumentException` if letters is out of range");
        argument(() -> x.say(2, 0));
        argument(() -> x.say(2, 21));
        says("Throws `IllegalStateException` if it has 8 parts");
        for (int i = 3; i <= 8; i++) {
            x.say(2, 1);
        }
        state(() -> x.say(2, 1));
        argument(() -> x.say(2, 0));

        promise(20, "show");
        says("Adds a cell to a note.");
        says("Returns how many parts it has then.");
        says("`format`: 0 to 2");
        x.set(0, 0, 0, -1000);
        for (int i = 0; i < 3; i++) {
            due("parts", x.show(1, 0, 0, 0, i), i + 1);
        }
        due("a cell", Make.text(x, 1), "-1000-1,000 -1000");
        undoable(y -> y.show(0, 0, 0, 0, 0));
        says("Throws `IndexOutOfBoundsException` if there is no such note or cell");
        index(() -> x.show(3, 0, 0, 0, 9));
        index(() -> x.show(-1, 0, 0, 0, 0));
        cells((y, grid, row, column) -> y.show(0, grid, row, column, 9));
        says("Throws `IllegalArgumentException` if format is out of range");
        argument(() -> x.show(1, 0, 0, 0, 3));
        argument(() -> x.show(2, 0, 0, 0, -1));
        says("Throws `IllegalStateException` if it has 8 parts");
        state(() -> x.show(2, 0, 0, 0, 0));
    }

    private static void clock() {
        promise(21, "tick");
        says("Ticks: there is one tick more, and the time and the seed become these.");
        NoteDocument x = filled();
        x.put(1, 0, 0, x.leaf(4, 0));
        x.put(1, 0, 1, x.leaf(5, 0));
        x.put(1, 0, 2, x.leaf(6, 0));
        says("Returns how many ticks there were then.");
        says("`time`: 0 to 1000000");
        says("`seed`: 0 to 1000000");
        due("one", x.tick(1000000, 0), 1);
        due("two", x.tick(0, 1000000), 2);
        due("the time, the ticks, a draw", Make.all(x, 1, 3), "0 2 " + 7919L * (31000002L * 31) % 1000 + " / - - -");
        undoable(y -> y.tick(5, 5));
        says("Throws `IllegalArgumentException` if time or seed is out of range");
        argument(() -> x.tick(-1, 0));
        argument(() -> x.tick(1000001, 0));
        argument(() -> x.tick(0, -1));
        argument(() -> x.tick(0, 1000001));
        says("Throws `IllegalStateException` if there were 1000 ticks");
        // Behind the 512th call nothing is promised; what it says holds there all the same.
        for (int i = 3; i <= 1000; i++) {
            x.tick(1, 1);
        }
        state(() -> x.tick(1, 1));
        argument(() -> x.tick(-1, 1));

        promise(22, "setWay");
        says("Sets the way; by push all is asked for at once, if it becomes so.");
        NoteDocument y = filled();
        says("`way`: 0 to 2");
        says("Returns the way before.");
        due("by need at first", y.setWay(2), 0);
        due("by hand nothing was found", Make.shown(y, 0, 1, 0), "-");
        due("by hand", y.setWay(1), 2);
        due("at once", y.runs(), 1);
        y.undo();
        y.put(0, 1, 0, 0);
        due("by push", y.setWay(1), 1);
        due("by push", y.setWay(0), 1);
        says("Throws `IllegalArgumentException` if way is out of range");
        argument(() -> y.setWay(-1));
        argument(() -> y.setWay(3));

        promise(23, "calculate");
        says("Asks for all cells with formulas, and all notes.");
        says("Returns how many cells' formulas were run by that.");
        NoteDocument z = filled();
        z.put(0, 2, 0, Make.cell(z, 1, 0));
        z.value(0, 1, 0);
        z.say(0, 6);
        due("one was run ahead", z.calculate(), 1);
        due("none any more", z.calculate(), 0);
        z.setWay(2);
        due("notes, too", z.length(0), 6);
    }

    /** A document with an empty cell, a number, an error that came through two cells, and a row. */
    private static NoteDocument readable() {
        NoteDocument x = Make.document(4, 4);
        x.grid(2, 1);
        x.set(0, 0, 1, -6);
        x.put(1, 1, 0, Make.error(x));
        x.put(0, 0, 2, x.cell(1, 1, 0, false));
        x.put(0, 0, 3, Make.flawed(x, 3, 1));
        return x;
    }

    private static void reads() {
        NoteDocument x = readable();
        promise(24, "kind");
        says("Returns what the value of a cell is: 0 empty, 1 a number, 2 an error; of a row by its first value.");
        int[] kinds = {0, 1, 2, 2};
        for (int i = 0; i < 4; i++) {
            due("kind", x.kind(0, 0, i), kinds[i]);
        }
        due("what the row spills", x.kind(0, 1, 3), 1);
        noCell(NoteDocument::kind);

        promise(25, "value");
        says("Returns the number of a cell, the kind of its error, or 0 if it is empty; of a row by its first value.");
        long[] values = {0, -6, 1, 1};
        for (int i = 0; i < 4; i++) {
            due("value", x.value(0, 0, i), values[i]);
        }
        due("what the row spills", x.value(0, 1, 3), 12);
        noCell(NoteDocument::value);

        promise(26, "spills");
        says("Returns of how many values the row of a cell is, 1 if its value is no row.");
        int[] spills = {1, 1, 1, 3};
        for (int i = 0; i < 4; i++) {
            due("spills", x.spills(0, 0, i), spills[i]);
        }
        due("what the row spills", x.spills(0, 1, 3), 1);
        noCell(NoteDocument::spills);

        promise(27, "through");
        says("Returns through how many cells the error of a cell has come, 0 if its value is none; of a row by its first "
            + "value.");
        int[] through = {0, 0, 2, 1};
        for (int i = 0; i < 4; i++) {
            due("through", x.through(0, 0, i), through[i]);
        }
        due("what the row spills", x.through(0, 1, 3), 0);
        noCell(NoteDocument::through);

        promise(28, "cause");
        says("Returns the cell in which the error of a cell arose: 100 times the grid, 10 times the row, and the column, "
            + "together; -1 if its value is none; of a row by its first value.");
        int[] cause = {-1, -1, 110, 3};
        for (int i = 0; i < 4; i++) {
            due("cause", x.cause(0, 0, i), cause[i]);
        }
        due("what the row spills", x.cause(0, 1, 3), -1);
        noCell(NoteDocument::cause);

        NoteDocument y = readable();
        y.setWay(2);
        promise(29, "kindFromNothing");
        says("Returns as kind() found from nothing.");
        for (int i = 0; i < 4; i++) {
            due("kind", y.kindFromNothing(0, 0, i), kinds[i]);
        }
        noCell(NoteDocument::kindFromNothing);

        promise(30, "valueFromNothing");
        says("Returns as value() found from nothing.");
        for (int i = 0; i < 4; i++) {
            due("value", y.valueFromNothing(0, 0, i), values[i]);
        }
        due("nothing was found", y.runs() + y.kind(0, 0, 2), 0);
        noCell(NoteDocument::valueFromNothing);

        promise(31, "length");
        says("Returns how many characters a note has.");
        x.note();
        due("none", x.length(0), 0);
        x.say(0, 2);
        x.show(0, 0, 0, 1, 2);
        due("eight", x.length(0), 8);
        says("Throws `IndexOutOfBoundsException` if there is no such note");
        index(() -> x.length(1));
        index(() -> x.length(-1));

        promise(32, "letter");
        says("Returns a character of a note.");
        says("`place`: from 0");
        says("Returns its code.");
        String text = "aa    -6";
        for (int i = 0; i < text.length(); i++) {
            due("a character", x.letter(0, i), text.charAt(i));
        }
        says("Throws `IndexOutOfBoundsException` if there is no such note, or it has no such character");
        index(() -> x.letter(1, 0));
        index(() -> x.letter(-1, 0));
        index(() -> x.letter(0, 8));
        index(() -> x.letter(0, -1));

        promise(33, "runs");
        says("Returns how often formulas of cells were run.");
        NoteDocument z = readable();
        due("not yet", z.runs(), 0);
        z.value(0, 0, 2);
        due("two", z.runs(), 2);
        z.value(0, 0, 2);
        due("two still", z.runs(), 2);

        promise(34, "calls");
        says("Returns how often bodies of functions were run.");
        z.define(0, z.leaf(2, 0));
        z.put(0, 1, 0, Make.each(z, 0, Make.upTo(z, 3), z.number(0)));
        due("not yet", z.calls(), 0);
        z.value(0, 1, 0);
        due("one for each", z.calls(), 3);
        z.put(0, 0, 0, Make.call(z, 0, z.number(3), z.number(0)));
        z.value(0, 0, 0);
        due("with memory", z.calls(), 3);
    }

    private static void moves() {
        promise(35, "insert");
        says("Inserts a row.");
        says("Returns how many rows the grid has then.");
        says("`row`: 0 to how many there are");
        NoteDocument x = filled();
        due("the first one", x.insert(0, 0), 4);
        due("the last one", x.insert(0, 4), 5);
        due("rows", Make.all(x, 0, 1), "- / 3 / 4 / - / -");
        undoable(y -> y.insert(0, 0));
        says("Throws `IndexOutOfBoundsException` if there is no such grid, or row is out of range");
        index(() -> x.insert(2, 0));
        index(() -> x.insert(-1, 0));
        index(() -> x.insert(0, -1));
        index(() -> x.insert(0, 6));
        says("Throws `IllegalStateException` if it has 10");
        for (int i = 5; i < 10; i++) {
            x.insert(0, i);
        }
        state(() -> x.insert(0, 0));
        index(() -> x.insert(0, 11));

        promise(36, "remove");
        says("Removes a row.");
        says("Returns how many nodes are torn by that.");
        NoteDocument y = filled();
        y.cell(0, 0, 1, false);
        y.range(0, 0, 0, 1, 0);
        due("one", y.remove(0, 0), 1);
        due("rows", Make.all(y, 0, 1), "4 / -");
        due("what was torn ahead does not count", y.remove(0, 1), 0);
        undoable(z -> z.remove(0, 0));
        says("Throws `IndexOutOfBoundsException` if there is no such grid or row");
        index(() -> y.remove(2, 0));
        index(() -> y.remove(0, 1));
        index(() -> y.remove(0, -1));
        says("Throws `IllegalStateException` if it is the only one");
        state(() -> y.remove(0, 0));

        promise(37, "move");
        says("Moves a content within a grid.");
        says("Returns how many nodes are torn by that.");
        NoteDocument z = filled();
        z.cell(0, 2, 1, true);
        due("one", z.move(0, 0, 0, 2, 1), 1);
        due("moved", Make.all(z, 0, 2), "- - / 4 - / - 3");
        due("none", z.move(0, 2, 1, 0, 0), 0);
        undoable(v -> v.move(0, 0, 0, 0, 1));
        says(NO_CELL + ", of both");
        cells((v, grid, row, column) -> v.move(grid, row, column, 0, 0));
        cells((v, grid, row, column) -> v.move(grid, 0, 0, row, column));
        says("Throws `IllegalArgumentException` if both are the same");
        argument(() -> z.move(0, 0, 0, 0, 0));
        argument(() -> z.move(0, 2, 1, 2, 1));
        says("Throws `IllegalStateException` if the first one has no content");
        state(() -> z.move(0, 2, 1, 0, 0));

        promise(38, "sort");
        says("Sorts rows.");
        says("Returns how many rows go elsewhere.");
        NoteDocument v = filled();
        v.set(0, 1, 0, 2);
        v.set(0, 2, 0, 9);
        due("two", v.sort(0, 0, 2, 0), 2);
        due("sorted", Make.all(v, 0, 1), "2 / 3 / 9");
        says("`to`: row or more");
        due("row", v.sort(0, 1, 1, 0), 0);
        undoable(w -> {
            w.set(0, 0, 0, 8);
            w.set(0, 1, 0, 7);
            w.sort(0, 0, 1, 0);
            due("the sort alone is undone", w.undo() * 100 + w.value(0, 0, 0), 408);
            w.undo();
        });
        says("Throws `IndexOutOfBoundsException` if there is no such grid, row or column");
        index(() -> v.sort(2, 0, 0, 0));
        index(() -> v.sort(0, 3, 3, 0));
        index(() -> v.sort(0, -1, 0, 0));
        index(() -> v.sort(0, 0, 3, 0));
        index(() -> v.sort(0, 0, 0, 2));
        says("Throws `IllegalArgumentException` if to is below row");
        argument(() -> v.sort(0, 2, 1, 0));
    }

    private static void scenarios() {
        promise(39, "overlay");
        says("Lets a scenario have another number for a cell.");
        NoteDocument x = filled();
        x.set(0, 2, 0, 5);
        says("Returns how many cells it has numbers for then.");
        due("one", x.overlay(0, 0, 0, 0, -MOST), 1);
        due("two", x.overlay(0, 0, 2, 0, 7), 2);
        due("the same one", x.overlay(0, 0, 0, 0, 6), 2);
        due("another number", x.valueIn(0, 0, 0, 0), 6);
        undoable(y -> y.overlay(0, 0, 0, 0, 9));
        says("`scenario`: 0 to 2");
        due("0 and 2", allowed(() -> x.overlay(0, 0, 0, 0, 1)) && allowed(() -> x.overlay(2, 0, 0, 0, 1)), true);
        says("Throws `IllegalArgumentException` if scenario or number is out of range");
        argument(() -> x.overlay(3, 0, 9, 0, 1));
        argument(() -> x.overlay(-1, 0, 0, 0, 1));
        argument(() -> x.overlay(0, 0, 9, 0, MOST + 1));
        argument(() -> x.overlay(0, 0, 0, 0, -MOST - 1));
        noCell((y, grid, row, column) -> y.overlay(0, grid, row, column, 1));
        says("Throws `IllegalStateException` if the cell has no number");
        state(() -> x.overlay(0, 0, 1, 0, 1));
        state(() -> x.overlay(0, 0, 1, 1, 1));

        promise(40, "drop");
        says("Drops all numbers of a scenario.");
        says("Returns how many there were.");
        due("two", x.drop(0), 2);
        due("none", x.drop(0), 0);
        due("dropped", x.valueIn(0, 0, 0, 0), 3);
        due("those of another one stay", x.valueIn(2, 0, 0, 0), 1);
        undoable(y -> {
            y.overlay(0, 0, 0, 0, 50);
            y.drop(0);
            due("the drop alone is undone", y.undo() * 100 + y.valueIn(0, 0, 0, 0), 350);
            y.drop(0);
            y.undo();
        });
        ofScenario();
        argument(() -> x.drop(-1));
        argument(() -> x.drop(3));

        promise(41, "kindIn");
        says("Returns as kind() in a scenario.");
        x.put(0, 1, 0, Make.two(x, Make.DIVIDE, x.number(6), Make.cell(x, 0, 0)));
        x.overlay(1, 0, 0, 0, 0);
        due("an error", x.kindIn(1, 0, 1, 0), 2);
        due("a number", x.kindIn(0, 0, 1, 0), 1);
        due("empty", x.kindIn(0, 0, 0, 1), 0);
        ofScenario();
        argument(() -> x.kindIn(3, 9, 0, 0));
        argument(() -> x.kindIn(-1, 0, 0, 0));
        noCell((y, grid, row, column) -> y.kindIn(2, grid, row, column));

        promise(42, "valueIn");
        says("Returns as value() in a scenario.");
        due("an error", x.valueIn(1, 0, 1, 0), 1);
        due("a number", x.valueIn(0, 0, 1, 0), 2);
        due("another number", x.valueIn(2, 0, 1, 0), 6);
        due("empty", x.valueIn(0, 0, 0, 1), 0);
        ofScenario();
        argument(() -> x.valueIn(3, 9, 0, 0));
        argument(() -> x.valueIn(-1, 0, 0, 0));
        noCell((y, grid, row, column) -> y.valueIn(2, grid, row, column));
    }

    private static void ofScenario() {
        says("`scenario`: 0 to 2");
        NoteDocument x = filled();
        for (int i = 0; i < 3; i++) {
            int scenario = i;
            due("a scenario", allowed(() -> x.drop(scenario)) && allowed(() -> x.kindIn(scenario, 0, 0, 0))
                && allowed(() -> x.valueIn(scenario, 0, 0, 0)), true);
        }
        says("Throws `IllegalArgumentException` if scenario is out of range");
    }

    private static void goals() {
        promise(43, "seek");
        says("Seeks a number: tries from the least to the greatest one in place of the number of a cell, all else found "
            + "from nothing.");
        NoteDocument x = filled();
        x.put(0, 2, 1, Make.two(x, Make.MULTIPLY, Make.cell(x, 0, 0), Make.cell(x, 0, 0)));
        says("Returns the first number with which that is the number wanted, or greater; 1000000 if there is none.");
        due("the number wanted", x.seek(0, 0, 21, 36, 0, 40), 6);
        due("or greater", x.seek(0, 0, 21, 37, 0, 40), 7);
        due("the first one, from the least", x.seek(0, 0, 21, 36, -9, 40), -9);
        due("none", x.seek(0, 0, 21, 36, 0, 6), 1000000);
        due("the number stays, nothing is kept", x.runs() * 10 + x.value(0, 0, 0), 3);
        says("`of`: 10 times the row, and the column of the cell with the number, together");
        x.set(0, 2, 0, 1);
        due("another cell", x.seek(0, 20, 20, 8, 0, 40), 8);
        says("`goal`: 10 times the row, and the column of the cell that is looked at, together; both in the grid");
        due("another cell", x.seek(0, 20, 0, 3, 0, 40), 0);
        x.set(1, 1, 2, 1);
        due("in another grid", x.seek(1, 12, 12, 8, 0, 40), 8);
        says("`least`: the least number tried, -1000 to 1000");
        due("the least", x.seek(0, 0, 0, -1000, -1000, 1), -1000);
        due("the greatest", x.seek(0, 0, 0, -1000, 1000, 1), 1000);
        says("`many`: how many are tried, each 1 more, 1 to 40");
        due("forty", x.seek(0, 0, 0, 39, 0, 40), 39);
        due("one", x.seek(0, 0, 0, 39, 38, 1), 1000000);
        says("Throws `IndexOutOfBoundsException` if there is no such grid, or no such cell, of both");
        index(() -> x.seek(2, 0, 0, 0, 0, 1));
        index(() -> x.seek(-1, 0, 0, 0, 0, 1));
        for (int at : new int[] {-1, 2, 30, 12}) {
            index(() -> x.seek(0, at, 0, 0, 9999, 1));
            index(() -> x.seek(0, 0, at, 0, 9999, 1));
        }
        says("Throws `IllegalArgumentException` if least or many is out of range");
        argument(() -> x.seek(0, 1, 0, 0, -1001, 1));
        argument(() -> x.seek(0, 0, 0, 0, 1001, 1));
        argument(() -> x.seek(0, 0, 0, 0, 0, 0));
        argument(() -> x.seek(0, 0, 0, 0, 0, 41));
        says("Throws `IllegalStateException` if the cell has no number");
        state(() -> x.seek(0, 1, 0, 0, 0, 1));
        state(() -> x.seek(0, 10, 0, 0, 0, 1));

        promise(44, "undo");
        says("Undoes the latest call that is kept.");
        says("Returns how many are kept still.");
        NoteDocument y = Make.document(1, 1);
        y.set(0, 0, 0, 1);
        y.set(0, 0, 0, 2);
        due("the latest one", y.undo() * 10 + y.value(0, 0, 0), 11);
        due("the one ahead", y.undo() * 10 + y.kind(0, 0, 0), 0);
        says("Throws `IllegalStateException` if none is kept");
        state(y::undo);
        state(() -> new NoteDocument().undo());
    }

    public static void main(String[] args) throws IOException {
        grids();
        contents();
        held();
        leaves();
        nodes();
        names();
        notes();
        clock();
        reads();
        moves();
        scenarios();
        goals();
        List<String> promises = new ArrayList<>();
        for (String heading : Sentences.headings()) {
            boolean isPromise = heading.startsWith("Promise ");
            if (isPromise) {
                promises.add(heading);
            }
            CHECKS.due("a known heading: " + heading, isPromise || List.of("What it is", "Terms", "Grids", "Values", "Nodes",
                "Values of cells", "What is read, and when formulas are run", "Held cells and rounds",
                "Inserts, removals, moves, sorts", "Scenarios", "Undo").contains(heading));
        }
        SENTENCES.checkSpoken(promises);
        CHECKS.end();
    }
}
