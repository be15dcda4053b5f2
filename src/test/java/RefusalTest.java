import java.util.ArrayList;
import java.util.List;

/**
 * When a call throws, nothing has changed: of two documents that were made alike, one refuses a call,
 * and behind it both answer alike, whatever they are asked.
 */
public final class RefusalTest {
    private static final Checks CHECKS = new Checks();
    private static final long MOST = Checks.MOST;
    private static final int LEAST = Integer.MIN_VALUE;
    private static final int GREATEST = Integer.MAX_VALUE;

    private interface Maker {
        NoteDocument make();
    }

    private interface Refused {
        void on(NoteDocument x);
    }

    private record Refusal(String what, Class<?> type, Refused call) { }

    private static List<Refusal> refusals = new ArrayList<>();

    private static void refuse(String what, Class<?> type, Refused call) {
        refusals.add(new Refusal(what, type, call));
    }

    // ---- the documents

    /** Two grids, two notes, 16 nodes, names, functions, a held cell, a circle, rows that spill, scenarios. */
    private static NoteDocument rich(int way) {
        NoteDocument x = new NoteDocument();
        x.setWay(way);
        x.grid(4, 3);
        x.grid(2, 2);
        x.note();
        x.note();
        int two = x.number(2);
        int first = x.cell(0, 0, 0, false);
        int list = x.node(2, 0, two, 0);
        int sum = x.node(0, 0, list, first);
        int spill = x.cell(0, 1, 1, true);
        int count = x.node(1, 0, spill, 0);
        int self = x.cell(1, 0, 0, false);
        int more = x.node(0, 0, self, first);
        int call = x.node(5, 0, two, two);
        int name = x.leaf(1, 0);
        int given = x.node(0, 2, x.leaf(2, 0), first);
        int length = x.leaf(3, 0);
        x.node(0, 0, x.leaf(4, 0), x.leaf(6, 3));
        x.set(0, 0, 0, 3);
        x.set(0, 3, 2, 4);
        x.put(0, 1, 1, sum);
        x.put(0, 0, 1, count);
        x.put(0, 0, 2, call);
        x.put(0, 1, 2, name);
        x.put(1, 0, 0, more);
        x.hold(1, 0, 0, 10);
        x.put(1, 1, 1, length);
        x.put(1, 0, 1, x.cell(1, 0, 1, false));
        x.define(0, given);
        x.name(0, x.leaf(5, 0));
        x.say(0, 3);
        x.show(0, 0, 1, 1, 2);
        x.show(1, 0, 0, 2, 1);
        x.overlay(0, 0, 0, 0, 7);
        x.overlay(1, 0, 3, 2, -7);
        return x;
    }

    /** The same, asked for, changed and partly asked for again. */
    private static NoteDocument stirred(int way) {
        NoteDocument x = rich(way);
        x.calculate();
        x.set(0, 0, 0, 4);
        x.tick(5, 6);
        x.value(0, 1, 1);
        x.insert(0, 2);
        x.value(0, 0, 1);
        x.remove(0, 2);
        x.rounds(2);
        x.value(0, 0, 2);
        x.set(0, 0, 0, 5);
        return x;
    }

    /** The same, behind undo(), with nodes that refer to what is not there any more. */
    private static NoteDocument undone(int way) {
        NoteDocument x = stirred(way);
        x.insert(0, 4);
        int far = x.cell(0, 4, 0, false);
        int range = x.range(0, 0, 0, 4, 0);
        x.calculate();
        x.undo();
        x.put(0, 2, 0, far);
        x.put(0, 3, 0, range);
        x.name(1, far);
        x.undo();
        return x;
    }

    private static NoteDocument unkept(int way) {
        NoteDocument x = stirred(way);
        for (int i = 0; i < 5; i++) {
            x.undo();
        }
        return x;
    }

    /** All that there is most of: grids, rows, nodes, notes, parts, weight. */
    private static NoteDocument full(int way) {
        NoteDocument x = new NoteDocument();
        x.setWay(way);
        x.grid(9, 1);
        x.grid(1, 1);
        x.grid(1, 5);
        x.grid(2, 2);
        for (int i = 0; i < 3; i++) {
            x.note();
        }
        for (int i = 0; i < 8; i++) {
            if (i % 2 == 0) {
                x.say(0, 20);
            } else {
                x.show(0, 0, i, 0, i % 3);
            }
        }
        int node = x.number(1);
        for (int i = 1; i < 20; i++) {
            node = x.node(0, 0, node, 0);
        }
        node = x.node(1, 0, node, 0);
        x.put(3, 0, 0, node);
        x.put(0, 0, 0, x.node(2, 0, x.number(9), 0));
        x.set(1, 0, 0, 6);
        Make.nodes(x, 150);
        x.calculate();
        x.insert(0, 5);
        x.set(1, 0, 0, -6);
        return x;
    }

    private static NoteDocument empty(int way) {
        NoteDocument x = new NoteDocument();
        x.setWay(way);
        return x;
    }

    // ---- the calls that are refused

    /** Calls that a document of two grids, of 4 rows and 3 columns and of 2 and 2, refuses. */
    private static void refusedByRich(int nodes) {
        refusedSizes();
        refusedCells();
        refusedNodes(nodes);
        refusedNumbers();
        refusedNotes();
        refusedMoves();
        refusedScenarios();
    }

    private static void refusedSizes() {
        int[][] sizes = {{0, 1}, {11, 1}, {1, 0}, {1, 6}, {LEAST, GREATEST}};
        for (int[] size : sizes) {
            refuse("grid", Checks.ARGUMENT, x -> x.grid(size[0], size[1]));
        }
        for (int grid : new int[] {-1, 2, LEAST, GREATEST}) {
            refuse("rows", Checks.INDEX, x -> x.rows(grid));
            refuse("insert", Checks.INDEX, x -> x.insert(grid, 0));
            refuse("remove", Checks.INDEX, x -> x.remove(grid, 0));
            refuse("sort", Checks.INDEX, x -> x.sort(grid, 1, 0, 0));
            refuse("seek", Checks.INDEX, x -> x.seek(grid, 0, 0, 0, 9999, 0));
        }
        for (int bound : new int[] {0, 51, LEAST, GREATEST}) {
            refuse("rounds", Checks.ARGUMENT, x -> x.rounds(bound));
        }
        for (int way : new int[] {-1, 3, LEAST, GREATEST}) {
            refuse("setWay", Checks.ARGUMENT, x -> x.setWay(way));
        }
        int[][] ticks = {{-1, 0}, {1000001, 0}, {0, -1}, {0, 1000001}};
        for (int[] tick : ticks) {
            refuse("tick", Checks.ARGUMENT, x -> x.tick(tick[0], tick[1]));
        }
    }

    private static void refusedCells() {
        int[][] cells = {{-1, 0, 0}, {2, 0, 0}, {0, -1, 0}, {0, 4, 0}, {0, 0, -1}, {0, 0, 3}, {1, 2, 0}, {1, 0, 2},
            {GREATEST, LEAST, GREATEST}};
        for (int[] at : cells) {
            refuse("set", Checks.INDEX, x -> x.set(at[0], at[1], at[2], MOST + 1));
            refuse("put", Checks.INDEX, x -> x.put(at[0], at[1], at[2], 0));
            refuse("erase", Checks.INDEX, x -> x.erase(at[0], at[1], at[2]));
            refuse("hold", Checks.INDEX, x -> x.hold(at[0], at[1], at[2], MOST + 1));
            refuse("cell", Checks.INDEX, x -> x.cell(at[0], at[1], at[2], true));
            refuse("range", Checks.INDEX, x -> x.range(at[0], at[1], at[2], 0, 0));
            refuse("range", Checks.INDEX, x -> x.range(at[0], 0, 0, at[1], at[2]));
            refuse("show", Checks.INDEX, x -> x.show(0, at[0], at[1], at[2], 3));
            refuse("kind", Checks.INDEX, x -> x.kind(at[0], at[1], at[2]));
            refuse("value", Checks.INDEX, x -> x.value(at[0], at[1], at[2]));
            refuse("spills", Checks.INDEX, x -> x.spills(at[0], at[1], at[2]));
            refuse("through", Checks.INDEX, x -> x.through(at[0], at[1], at[2]));
            refuse("cause", Checks.INDEX, x -> x.cause(at[0], at[1], at[2]));
            refuse("kindFromNothing", Checks.INDEX, x -> x.kindFromNothing(at[0], at[1], at[2]));
            refuse("valueFromNothing", Checks.INDEX, x -> x.valueFromNothing(at[0], at[1], at[2]));
            refuse("move", Checks.INDEX, x -> x.move(at[0], at[1], at[2], 0, 0));
            refuse("overlay", Checks.INDEX, x -> x.overlay(0, at[0], at[1], at[2], 1));
            refuse("kindIn", Checks.INDEX, x -> x.kindIn(0, at[0], at[1], at[2]));
            refuse("valueIn", Checks.INDEX, x -> x.valueIn(0, at[0], at[1], at[2]));
        }
        refuse("range", Checks.ARGUMENT, x -> x.range(0, 1, 0, 0, 0));
        refuse("range", Checks.ARGUMENT, x -> x.range(0, 0, 1, 0, 0));
    }

    private static void refusedNodes(int nodes) {
        for (int node : new int[] {-1, nodes, LEAST, GREATEST}) {
            refuse("put", Checks.INDEX, x -> x.put(0, 0, 0, node));
            refuse("node", Checks.INDEX, x -> x.node(0, 0, node, 0));
            refuse("node", Checks.INDEX, x -> x.node(7, 0, 0, node));
            refuse("node", Checks.INDEX, x -> x.node(1, 0, node, 0));
            refuse("when", Checks.INDEX, x -> x.when(node, 0, 0));
            refuse("when", Checks.INDEX, x -> x.when(0, node, 0));
            refuse("when", Checks.INDEX, x -> x.when(0, 0, node));
            if (node != -1) {
                refuse("name", Checks.INDEX, x -> x.name(0, node));
                refuse("define", Checks.INDEX, x -> x.define(0, node));
            }
        }
        int[][] leaves = {{-1, 0}, {7, 0}, {0, 3}, {0, 20}, {0, -1}, {1, 6}, {2, 2}, {3, 2}, {6, 10}};
        for (int[] leaf : leaves) {
            refuse("leaf", Checks.ARGUMENT, x -> x.leaf(leaf[0], leaf[1]));
        }
        int[][] signs = {{-1, 0}, {8, 0}, {0, 10}, {1, 4}, {2, -1}, {4, 2}, {5, 4}, {6, -1}};
        for (int[] sign : signs) {
            refuse("node", Checks.ARGUMENT, x -> x.node(sign[0], sign[1], -1, -1));
        }
        refuse("name", Checks.ARGUMENT, x -> x.name(6, 0));
        refuse("name", Checks.ARGUMENT, x -> x.name(-1, -2));
        refuse("define", Checks.ARGUMENT, x -> x.define(4, 0));
        refuse("define", Checks.ARGUMENT, x -> x.define(-1, -2));
    }

    private static void refusedNumbers() {
        for (long number : new long[] {MOST + 1, -MOST - 1, Long.MIN_VALUE, Long.MAX_VALUE}) {
            refuse("set", Checks.ARGUMENT, x -> x.set(0, 0, 0, number));
            refuse("number", Checks.ARGUMENT, x -> x.number(number));
            refuse("hold", Checks.ARGUMENT, x -> x.hold(0, 1, 1, number));
            refuse("hold", Checks.ARGUMENT, x -> x.hold(0, 3, 2, number));
            refuse("overlay", Checks.ARGUMENT, x -> x.overlay(0, 9, 9, 9, number));
        }
        refuse("hold a number", Checks.STATE, x -> x.hold(0, 3, 2, 1));
        refuse("hold nothing", Checks.STATE, x -> x.hold(1, 1, 0, 1));
    }

    private static void refusedNotes() {
        for (int note : new int[] {-1, 2, LEAST, GREATEST}) {
            refuse("say", Checks.INDEX, x -> x.say(note, 0));
            refuse("show", Checks.INDEX, x -> x.show(note, 0, 0, 0, 3));
            refuse("length", Checks.INDEX, x -> x.length(note));
            refuse("letter", Checks.INDEX, x -> x.letter(note, 0));
        }
        for (int wrong : new int[] {-1, 21, LEAST, GREATEST}) {
            refuse("say", Checks.ARGUMENT, x -> x.say(0, wrong));
            refuse("show", Checks.ARGUMENT, x -> x.show(0, 0, 0, 0, wrong));
        }
        for (int place : new int[] {-1, 22, 200, LEAST, GREATEST}) {
            refuse("letter", Checks.INDEX, x -> x.letter(0, place));
            refuse("letter", Checks.INDEX, x -> x.letter(1, place));
        }
    }

    private static void refusedMoves() {
        for (int row : new int[] {-1, 4, LEAST, GREATEST}) {
            refuse("insert", Checks.INDEX, x -> x.insert(0, row == 4 ? 5 : row));
            refuse("remove", Checks.INDEX, x -> x.remove(0, row));
            refuse("move", Checks.INDEX, x -> x.move(0, 0, 0, row, 0));
            refuse("move", Checks.INDEX, x -> x.move(0, 0, 0, 0, row));
            refuse("sort", Checks.INDEX, x -> x.sort(0, row, row, 0));
            refuse("sort", Checks.INDEX, x -> x.sort(0, 2, 0, row));
            refuse("seek", Checks.INDEX, x -> x.seek(0, row == 4 ? 40 : row, 0, 0, 9999, 0));
            refuse("seek", Checks.INDEX, x -> x.seek(0, 0, row == 4 ? 3 : row, 0, 9999, 0));
        }
        refuse("sort", Checks.INDEX, x -> x.sort(0, 0, 4, 0));
        refuse("sort", Checks.ARGUMENT, x -> x.sort(0, 3, 2, 0));
        refuse("move", Checks.ARGUMENT, x -> x.move(0, 0, 0, 0, 0));
        refuse("move", Checks.ARGUMENT, x -> x.move(1, 1, 0, 1, 0));
        refuse("move nothing", Checks.STATE, x -> x.move(1, 1, 0, 0, 0));
        refuse("seek", Checks.ARGUMENT, x -> x.seek(0, 1, 1, 0, 1001, 1));
        refuse("seek", Checks.ARGUMENT, x -> x.seek(0, 0, 1, 0, 0, 41));
        refuse("seek", Checks.ARGUMENT, x -> x.seek(0, 0, 1, 0, -1001, 0));
        refuse("seek a formula", Checks.STATE, x -> x.seek(0, 1, 1, 0, 0, 1));
        refuse("seek nothing", Checks.STATE, x -> x.seek(1, 10, 1, 0, 0, 1));
    }

    private static void refusedScenarios() {
        for (int scenario : new int[] {-1, 3, LEAST, GREATEST}) {
            refuse("overlay", Checks.ARGUMENT, x -> x.overlay(scenario, 0, 0, 0, 1));
            refuse("drop", Checks.ARGUMENT, x -> x.drop(scenario));
            refuse("kindIn", Checks.ARGUMENT, x -> x.kindIn(scenario, 9, 0, 0));
            refuse("valueIn", Checks.ARGUMENT, x -> x.valueIn(scenario, 9, 0, 0));
        }
        refuse("overlay a formula", Checks.STATE, x -> x.overlay(0, 0, 1, 1, 1));
        refuse("overlay nothing", Checks.STATE, x -> x.overlay(0, 1, 1, 0, 1));
        refuse("overlay a held cell", Checks.STATE, x -> x.overlay(0, 1, 0, 0, 1));
    }

    /** Calls that a document refuses that has the most of all. */
    private static void refusedByFull() {
        refuse("grid", Checks.STATE, x -> x.grid(1, 1));
        refuse("grid", Checks.ARGUMENT, x -> x.grid(0, 1));
        refuse("note", Checks.STATE, NoteDocument::note);
        refuse("number", Checks.STATE, x -> x.number(0));
        refuse("number", Checks.ARGUMENT, x -> x.number(MOST + 1));
        refuse("cell", Checks.STATE, x -> x.cell(0, 0, 0, false));
        refuse("cell", Checks.INDEX, x -> x.cell(0, 10, 0, false));
        refuse("range", Checks.STATE, x -> x.range(0, 0, 0, 9, 0));
        refuse("range", Checks.ARGUMENT, x -> x.range(0, 1, 0, 0, 0));
        for (int kind = 0; kind < 7; kind++) {
            int of = kind;
            refuse("leaf", Checks.STATE, x -> x.leaf(of, 0));
        }
        refuse("leaf", Checks.ARGUMENT, x -> x.leaf(0, 1));
        for (int kind = 0; kind < 8; kind++) {
            int of = kind;
            refuse("node", Checks.STATE, x -> x.node(of, 0, 0, 0));
            refuse("node", Checks.INDEX, x -> x.node(of, 0, 150, 0));
        }
        refuse("node", Checks.ARGUMENT, x -> x.node(4, 4, 0, 0));
        refuse("when", Checks.STATE, x -> x.when(0, 0, 0));
        refuse("when", Checks.INDEX, x -> x.when(0, 150, 0));
        refuse("say", Checks.STATE, x -> x.say(0, 1));
        refuse("say", Checks.ARGUMENT, x -> x.say(0, 21));
        refuse("show", Checks.STATE, x -> x.show(0, 0, 0, 0, 0));
        refuse("show", Checks.ARGUMENT, x -> x.show(0, 0, 0, 0, 3));
        refuse("insert", Checks.STATE, x -> x.insert(0, 0));
        refuse("insert", Checks.STATE, x -> x.insert(0, 10));
        refuse("insert", Checks.INDEX, x -> x.insert(0, 11));
        refuse("remove", Checks.STATE, x -> x.remove(1, 0));
        refuse("remove", Checks.STATE, x -> x.remove(2, 0));
        refuse("remove", Checks.INDEX, x -> x.remove(1, 1));
        refuse("letter", Checks.INDEX, x -> x.letter(2, 0));
        refuse("letter", Checks.INDEX, x -> x.letter(0, 8 * 22));
        refuse("hold", Checks.STATE, x -> x.hold(1, 0, 0, 0));
        refuse("move", Checks.ARGUMENT, x -> x.move(1, 0, 0, 0, 0));
    }

    /** Calls that a document refuses in which there is nothing. */
    private static void refusedByEmpty() {
        refusedByRich(0);
        refuse("rows", Checks.INDEX, x -> x.rows(0));
        refuse("set", Checks.INDEX, x -> x.set(0, 0, 0, 0));
        refuse("kind", Checks.INDEX, x -> x.kind(0, 0, 0));
        refuse("leaf", Checks.ARGUMENT, x -> x.leaf(0, 0));
        refuse("leaf", Checks.ARGUMENT, x -> x.leaf(3, 0));
        refuse("length", Checks.INDEX, x -> x.length(0));
        refuse("undo", Checks.STATE, NoteDocument::undo);
        refusals.removeIf(refusal -> refusal.type != type(refusal, empty(0)));
    }

    private static Class<?> type(Refusal refusal, NoteDocument x) {
        try {
            refusal.call.on(x);
            return void.class;
        } catch (RuntimeException e) {
            return e.getClass();
        }
    }

    // ---- what a document answers

    private static final int VIEWS = 8;

    private static String view(NoteDocument x, int which) {
        StringBuilder text = new StringBuilder();
        switch (which) {
            case 0:
                add(text, x.runs(), x.calls(), x.torn(), x.setWay(0));
                break;
            case 1:
                x.setWay(2);
                values(text, x);
                break;
            case 2:
                values(text, x);
                add(text, x.runs(), x.calls());
                break;
            case 3:
                fromNothing(text, x);
                break;
            case 4:
                add(text, x.calculate(), x.runs(), x.rounds(2), x.runs(), x.calls());
                values(text, x);
                break;
            case 5:
                undos(text, x);
                break;
            case 6:
                structure(text, x);
                break;
            default:
                x.setWay(1);
                add(text, x.runs(), x.calls(), x.tick(1, 1), x.runs());
                text.append(Checks.outcome(() -> x.insert(0, 0))).append(' ');
                add(text, x.runs(), x.calls(), x.undo());
        }
        return text.toString();
    }

    private static void add(StringBuilder text, long... answers) {
        for (long answer : answers) {
            text.append(answer).append(' ');
        }
    }

    private static int columns(NoteDocument x, int grid) {
        int columns = 0;
        while (columns < 5 && type(new Refusal("", null, y -> y.kindFromNothing(grid, 0, 0)), x) == void.class
            && isCell(x, grid, columns)) {
            columns++;
        }
        return columns;
    }

    private static boolean isCell(NoteDocument x, int grid, int column) {
        return type(new Refusal("", null, y -> y.kindFromNothing(grid, 0, column)), x) == void.class;
    }

    private static int grids(NoteDocument x) {
        int grids = 0;
        while (grids < 4 && isCell(x, grids, 0)) {
            grids++;
        }
        return grids;
    }

    private static void values(StringBuilder text, NoteDocument x) {
        for (int grid = 0; grid < grids(x); grid++) {
            int columns = columns(x, grid);
            for (int row = 0; row < x.rows(grid); row++) {
                for (int column = 0; column < columns; column++) {
                    add(text, x.kind(grid, row, column), x.value(grid, row, column), x.spills(grid, row, column),
                        x.through(grid, row, column), x.cause(grid, row, column), x.runs());
                }
            }
        }
        for (int note = 0; note < 3; note++) {
            int of = note;
            if (type(new Refusal("", null, y -> y.say(of, 0)), x) == IllegalArgumentException.class) {
                text.append(Make.text(x, note)).append(' ');
            }
        }
    }

    private static void fromNothing(StringBuilder text, NoteDocument x) {
        for (int grid = 0; grid < grids(x); grid++) {
            int columns = columns(x, grid);
            for (int row = 0; row < x.rows(grid); row++) {
                for (int column = 0; column < columns; column++) {
                    add(text, x.kindFromNothing(grid, row, column), x.valueFromNothing(grid, row, column),
                        x.valueIn(0, grid, row, column), x.valueIn(1, grid, row, column),
                        x.valueIn(2, grid, row, column));
                }
            }
        }
        add(text, x.runs(), x.calls(), x.drop(0), x.drop(1), x.drop(2));
    }

    private static void undos(StringBuilder text, NoteDocument x) {
        for (int i = 0; i < 6; i++) {
            text.append(Checks.outcome(x::undo)).append(' ');
            add(text, x.torn(), x.runs());
            x.setWay(2);
            for (int grid = 0; grid < grids(x); grid++) {
                text.append(Make.all(x, grid, columns(x, grid))).append(' ');
            }
            x.setWay(0);
        }
    }

    private static void structure(StringBuilder text, NoteDocument x) {
        text.append(Checks.outcome(() -> x.number(0))).append(' ').append(Checks.outcome(x::note)).append(' ');
        text.append(Checks.outcome(() -> x.grid(1, 1))).append(' ');
        for (int note = 0; note < 3; note++) {
            int of = note;
            text.append(Checks.outcome(() -> x.say(of, 1))).append(' ');
        }
        for (int grid = 0; grid < grids(x); grid++) {
            int columns = columns(x, grid);
            add(text, x.rows(grid), columns);
            for (int row = 0; row < x.rows(grid); row++) {
                for (int column = 0; column < columns; column++) {
                    int[] at = {grid, row, column};
                    text.append(Checks.outcome(() -> x.hold(at[0], at[1], at[2], 0))).append(' ');
                    add(text, x.erase(grid, row, column));
                }
            }
        }
        add(text, x.tick(0, 0), x.runs());
    }

    // ---- all of them

    private static void refuseAll(String name, Maker maker) {
        CHECKS.promise("Refused by " + name);
        List<String> due = new ArrayList<>();
        for (int view = 0; view < VIEWS; view++) {
            due.add(view(maker.make(), view));
        }
        for (int i = 0; i < refusals.size(); i++) {
            Refusal refusal = refusals.get(i);
            boolean isSame = true;
            for (int view = 0; view < VIEWS; view++) {
                NoteDocument x = maker.make();
                Class<?> type = type(refusal, x);
                if (view == 0) {
                    CHECKS.due(i + " " + refusal.what + " throws", type.getName(), refusal.type.getName());
                }
                isSame = isSame && view(x, view).equals(due.get(view));
            }
            CHECKS.due(i + " " + refusal.what + " changes nothing", isSame);
        }
    }

    public static void main(String[] args) {
        for (int way = 0; way < 3; way++) {
            int of = way;
            refusals = new ArrayList<>();
            refusedByRich(18);
            refuseAll("a rich document by way " + way, () -> rich(of));
            refuseAll("a stirred document by way " + way, () -> stirred(of));
            refusals = new ArrayList<>();
            refusedByRich(20);
            refuseAll("an undone document by way " + way, () -> undone(of));
            refusals = new ArrayList<>();
            refuse("undo", Checks.STATE, NoteDocument::undo);
            refuseAll("a document that keeps nothing by way " + way, () -> unkept(of));
            refusals = new ArrayList<>();
            refusedByFull();
            refuseAll("a full document by way " + way, () -> full(of));
            refusals = new ArrayList<>();
            refusedByEmpty();
            refuseAll("an empty document by way " + way, () -> empty(of));
        }
        CHECKS.end();
    }
}
