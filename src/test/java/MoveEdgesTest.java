/** The edges of promises 35 to 44: inserts, removals, moves, sorts, scenarios, goals, undo. */
public final class MoveEdgesTest {
    private static final Checks CHECKS = new Checks();
    private static final long MOST = Checks.MOST;

    /** A document of four rows with the numbers 1, 2, 4 and 8, and a grid beside it. */
    private static NoteDocument numbered() {
        NoteDocument x = Make.document(4, 3);
        x.grid(4, 2);
        for (int i = 0; i < 4; i++) {
            x.set(0, i, 0, 1 << i);
        }
        return x;
    }

    private static String value(NoteDocument x, int node) {
        x.put(1, 0, 0, node);
        return Make.shown(x, 1, 0, 0);
    }

    private static int sum(NoteDocument x, int row, int toRow) {
        return Make.fold(x, 0, x.range(0, row, 0, toRow, 0));
    }

    private static void inserts() {
        CHECKS.promise("Promise 35");
        NoteDocument x = numbered();
        for (int row : new int[] {-1, 5, Integer.MIN_VALUE, Integer.MAX_VALUE}) {
            CHECKS.thrown("row", Checks.INDEX, () -> x.insert(0, row));
        }
        for (int grid : new int[] {-1, 2, Integer.MIN_VALUE, Integer.MAX_VALUE}) {
            CHECKS.thrown("grid", Checks.INDEX, () -> x.insert(grid, 0));
            CHECKS.thrown("remove: grid", Checks.INDEX, () -> x.remove(grid, 0));
            CHECKS.thrown("move: grid", Checks.INDEX, () -> x.move(grid, 0, 0, 0, 0));
            CHECKS.thrown("sort: grid", Checks.INDEX, () -> x.sort(grid, 0, -1, 0));
            CHECKS.thrown("seek: grid", Checks.INDEX, () -> x.seek(grid, 0, 0, 0, 0, 0));
        }
        String[] wants = {"- / 1 / 2 / 4 / 8", "1 / - / 2 / 4 / 8", "1 / 2 / - / 4 / 8", "1 / 2 / 4 / - / 8",
            "1 / 2 / 4 / 8 / -"};
        String[] refs = {"2", "2", "2", "2", "2"};
        // The range of the two middle rows: what comes between them is in it, and holds 16.
        String[] sums = {"6", "6", "22", "6", "6"};
        for (int row = 0; row < 5; row++) {
            NoteDocument y = numbered();
            int ref = y.cell(0, 1, 0, false);
            int range = sum(y, 1, 2);
            int one = sum(y, 1, 1);
            int other = y.cell(1, 1, 1, false);
            y.set(1, 1, 1, 77);
            CHECKS.due("how many rows", y.insert(0, row), 5);
            CHECKS.due("what is below moves", Make.all(y, 0, 1), wants[row]);
            CHECKS.due("none is torn", y.torn(), 0);
            y.set(0, row, 0, 16);
            CHECKS.due("a reference", value(y, ref), refs[row]);
            CHECKS.due("a range", value(y, range), sums[row]);
            CHECKS.due("a range of one row", value(y, one), "2");
            CHECKS.due("another grid", value(y, other), "77");
        }
        NoteDocument y = Make.document(1, 1);
        for (int i = 2; i <= 10; i++) {
            CHECKS.due("up to ten", y.insert(0, i % 2 * (i - 1)), i);
        }
        CHECKS.thrown("ten rows", Checks.STATE, () -> y.insert(0, 0));
        CHECKS.thrown("ten rows", Checks.STATE, () -> y.insert(0, 10));
        CHECKS.thrown("ten rows, row", Checks.INDEX, () -> y.insert(0, 11));
        CHECKS.thrown("ten rows, row", Checks.INDEX, () -> y.insert(0, -1));
        y.set(0, 9, 0, 5);
        y.undo();
        y.undo();
        CHECKS.due("undone", y.rows(0), 9);
        CHECKS.due("ten once more", y.insert(0, 9), 10);
        carried();
    }

    /** What stands in a row goes along: formulas, held numbers, scenarios, notes; what was found is forgotten. */
    private static void carried() {
        NoteDocument x = numbered();
        x.note();
        x.show(0, 0, 3, 0, 2);
        NoteDocument y = numbered();
        y.note();
        y.show(0, 0, 0, 0, 0);
        y.insert(0, 0);
        CHECKS.due("the first cell in a note", Make.text(y, 0), "1");
        x.overlay(1, 0, 3, 0, 80);
        x.put(0, 3, 1, x.cell(0, 3, 0, false));
        x.put(0, 3, 2, x.cell(0, 3, 1, false));
        x.hold(0, 3, 1, 5);
        x.put(1, 0, 1, x.number(3));
        x.calculate();
        CHECKS.due("three runs", x.runs(), 3);
        x.insert(0, 3);
        CHECKS.due("all goes along", Make.all(x, 0, 3), "1 - - / 2 - - / 4 - - / - - - / 8 5 5");
        CHECKS.due("one anew", x.runs(), 4);
        CHECKS.due("in a scenario", x.valueIn(1, 0, 4, 0), 80);
        CHECKS.due("none stays", x.kindIn(1, 0, 3, 0), 0);
        CHECKS.due("a note", Make.text(x, 0), "     8");
        x.rounds(1);
        CHECKS.due("still held", Make.all(x, 0, 3), "1 - - / 2 - - / 4 - - / - - - / 8 8 8");
        x.value(1, 0, 1);
        CHECKS.due("forgotten in the other grid, too", x.runs(), 7);
        x.undo();
        x.undo();
        CHECKS.due("undone", Make.all(x, 0, 3), "1 - - / 2 - - / 4 - - / 8 5 5");
        x.value(1, 0, 1);
        CHECKS.due("what was found is back", x.runs(), 7);
    }

    private static void removals() {
        CHECKS.promise("Promise 36");
        NoteDocument x = numbered();
        for (int row : new int[] {-1, 4, Integer.MIN_VALUE, Integer.MAX_VALUE}) {
            CHECKS.thrown("row", Checks.INDEX, () -> x.remove(0, row));
        }
        String[] wants = {"2 / 4 / 8", "1 / 4 / 8", "1 / 2 / 8", "1 / 2 / 4"};
        String[] refs = {"2", "!3", "2", "2"};
        String[] sums = {"6", "4", "2", "6"};
        int[] torn = {0, 3, 0, 0};
        for (int row = 0; row < 4; row++) {
            NoteDocument y = numbered();
            int ref = y.cell(0, 1, 0, false);
            int spill = y.cell(0, 1, 2, true);
            int range = sum(y, 1, 2);
            int one = sum(y, 1, 1);
            y.cell(1, 1, 0, false);
            y.range(1, 1, 0, 1, 1);
            CHECKS.due("how many are torn", y.remove(0, row), torn[row]);
            CHECKS.due("how many are torn", y.torn(), torn[row]);
            CHECKS.due("what is below moves up", Make.all(y, 0, 1), wants[row]);
            CHECKS.due("a reference", value(y, ref), refs[row]);
            CHECKS.due("a SPILL", value(y, spill), row == 1 ? "!3" : "-");
            CHECKS.due("a range loses it", value(y, range), sums[row]);
            CHECKS.due("a range of which nothing is left", value(y, one), refs[row]);
        }
        NoteDocument y = numbered();
        int range = sum(y, 1, 3);
        y.overlay(0, 0, 1, 0, 20);
        y.overlay(0, 0, 3, 0, 80);
        y.note();
        y.show(0, 0, 1, 0, 0);
        y.show(0, 0, 2, 0, 0);
        y.show(0, 0, 3, 0, 0);
        CHECKS.due("torn", y.remove(0, 1), 0);
        CHECKS.due("a torn cell in a note", Make.text(y, 0), "!348");
        CHECKS.due("a scenario goes along", y.valueIn(0, 0, 2, 0), 80);
        CHECKS.due("and loses a number", y.overlay(0, 0, 0, 0, 1), 2);
        CHECKS.due("the range", value(y, range), "12");
        CHECKS.due("the last row of it", y.remove(0, 2), 0);
        CHECKS.due("the range", value(y, range), "4");
        CHECKS.due("nothing is left", y.remove(0, 1), 1);
        CHECKS.due("the range", value(y, range), "!3");
        CHECKS.thrown("the only one", Checks.STATE, () -> y.remove(0, 0));
        CHECKS.thrown("the only one, no such row", Checks.INDEX, () -> y.remove(0, 1));
        CHECKS.thrown("the only one, no such row", Checks.INDEX, () -> y.remove(0, -1));
        y.insert(0, 0);
        CHECKS.due("not the only one any more", y.remove(0, 0), 0);
        CHECKS.due("a torn one stays so", Make.text(y, 0), "!3!3!3");
    }

    private static void moves() {
        CHECKS.promise("Promise 37");
        NoteDocument x = numbered();
        int[][] wrong = {{-1, 0, 0, 1}, {4, 0, 0, 1}, {0, -1, 0, 1}, {0, 3, 0, 1}, {0, 0, -1, 0}, {0, 0, 4, 0},
            {0, 0, 0, -1}, {0, 0, 0, 3}, {9, 9, 9, 9}, {Integer.MIN_VALUE, 0, 0, 0}};
        for (int[] at : wrong) {
            CHECKS.thrown("no such cell", Checks.INDEX, () -> x.move(0, at[0], at[1], at[2], at[3]));
        }
        CHECKS.thrown("the same", Checks.ARGUMENT, () -> x.move(0, 3, 2, 3, 2));
        CHECKS.thrown("no content", Checks.STATE, () -> x.move(0, 3, 2, 0, 0));
        x.put(0, 0, 1, Make.two(x, Make.ADD, Make.upTo(x, 2), x.number(0)));
        CHECKS.thrown("what is spilled into has no content", Checks.STATE, () -> x.move(0, 1, 1, 2, 1));
        int from = x.cell(0, 0, 0, true);
        int to = x.cell(0, 3, 2, false);
        int other = x.cell(0, 3, 1, false);
        int range = sum(x, 0, 1);
        int square = Make.fold(x, 0, x.range(0, 3, 2, 3, 2));
        CHECKS.due("one is torn", x.move(0, 0, 0, 3, 2), 1);
        CHECKS.due("it takes the place", Make.all(x, 0, 3), "- 1 - / 2 2 - / 4 - - / 8 - 1");
        CHECKS.due("a reference leads there", value(x, from), "1");
        CHECKS.due("torn", value(x, to), "!3");
        CHECKS.due("another one", value(x, other), "-");
        CHECKS.due("ranges stay", value(x, range), "2");
        CHECKS.due("ranges stay", value(x, square), "1");
        CHECKS.due("back again", x.move(0, 3, 2, 0, 0), 0);
        CHECKS.due("the reference is back", value(x, from), "1");
        CHECKS.due("torn for ever", value(x, to), "!3");
        CHECKS.due("torn", x.torn(), 1);
        x.overlay(0, 0, 0, 0, 10);
        x.overlay(0, 0, 1, 0, 20);
        x.overlay(2, 0, 1, 0, 30);
        x.note();
        x.show(0, 0, 0, 0, 1);
        x.show(0, 0, 1, 0, 1);
        x.show(0, 0, 2, 0, 1);
        x.move(0, 0, 0, 1, 0);
        CHECKS.due("a note", Make.text(x, 0), "1!34");
        CHECKS.due("a scenario goes along", x.valueIn(0, 0, 1, 0), 10);
        CHECKS.due("another one drops its number", x.drop(2), 0);
        CHECKS.due("a number each", x.drop(0), 1);
        x.put(0, 3, 1, x.number(6));
        x.hold(0, 3, 1, 9);
        x.move(0, 3, 1, 1, 0);
        CHECKS.due("held with its content", Make.shown(x, 0, 1, 0), "9");
        x.set(0, 0, 0, 3);
        x.move(0, 0, 0, 1, 0);
        x.put(0, 1, 0, x.number(6));
        CHECKS.due("what was held there is held no more", Make.shown(x, 0, 1, 0), "6");
    }

    private static void sorts() {
        CHECKS.promise("Promise 38");
        NoteDocument x = numbered();
        int[][] wrong = {{-1, 0, 0}, {4, 4, 0}, {0, 4, 0}, {0, 3, -1}, {0, 3, 3}, {1, 0, 3}, {0, Integer.MAX_VALUE, 0},
            {Integer.MIN_VALUE, 0, 0}};
        for (int[] at : wrong) {
            CHECKS.thrown("no such row or column", Checks.INDEX, () -> x.sort(0, at[0], at[1], at[2]));
        }
        CHECKS.thrown("to below row", Checks.ARGUMENT, () -> x.sort(0, 3, 2, 0));
        CHECKS.due("rising already", x.sort(0, 0, 3, 0), 0);
        CHECKS.due("no numbers", x.sort(0, 0, 3, 2), 0);
        CHECKS.due("the last row alone", x.sort(0, 3, 3, 0), 0);
        x.set(0, 0, 0, MOST);
        x.set(0, 3, 0, -MOST);
        CHECKS.due("the first and the last one", x.sort(0, 0, 3, 0), 2);
        CHECKS.due("sorted", Make.all(x, 0, 1), -MOST + " / 2 / 4 / " + MOST);
        x.set(0, 0, 0, 3);
        CHECKS.due("some of them", x.sort(0, 1, 2, 0), 0);
        CHECKS.due("two of them", x.sort(0, 0, 1, 0), 2);
        CHECKS.due("sorted", Make.all(x, 0, 1), "2 / 3 / 4 / " + MOST);
        NoteDocument y = Make.document(10, 2);
        long[] numbers = {5, 0, 5, -1, 0, 7, 0, -1, 5, 0};
        for (int i = 0; i < 10; i++) {
            y.set(0, i, 1, i);
            if (numbers[i] != 0) {
                y.set(0, i, 0, numbers[i]);
            }
        }
        y.put(0, 4, 0, y.number(-50));
        y.set(0, 9, 0, 0);
        CHECKS.due("all of them", y.sort(0, 0, 9, 0), 10);
        CHECKS.due("those with the same as they were, without a number behind all", Make.all(y, 0, 2),
            "-1 3 / -1 7 / 0 9 / 5 0 / 5 2 / 5 8 / 7 5 / - 1 / -50 4 / - 6");
        CHECKS.due("sorted", y.sort(0, 0, 9, 0), 0);
        goAlong();
    }

    private static void goAlong() {
        NoteDocument x = numbered();
        x.set(0, 0, 0, 9);
        int ref = x.cell(0, 0, 1, false);
        int spill = x.cell(0, 3, 0, true);
        int range = sum(x, 0, 0);
        int outside = x.cell(1, 0, 1, false);
        x.set(1, 0, 1, 33);
        x.put(0, 0, 1, x.number(70));
        x.hold(0, 0, 1, 71);
        x.put(0, 1, 2, ref);
        x.overlay(1, 0, 0, 0, 90);
        x.note();
        x.show(0, 0, 3, 0, 0);
        CHECKS.due("how many", x.sort(0, 0, 3, 0), 4);
        CHECKS.due("contents go along", Make.all(x, 0, 3), "2 - 71 / 4 - - / 8 - - / 9 71 -");
        CHECKS.due("none is torn", x.torn(), 0);
        CHECKS.due("a reference", value(x, ref), "71");
        CHECKS.due("a SPILL", value(x, spill), "8");
        CHECKS.due("torn where it went", x.remove(0, 2), 1);
        x.undo();
        CHECKS.due("ranges stay", value(x, range), "2");
        CHECKS.due("another grid", value(x, outside), "33");
        CHECKS.due("a scenario", x.valueIn(1, 0, 3, 0), 90);
        CHECKS.due("a note", Make.text(x, 0), "8");
        for (int i = 0; i < 5; i++) {
            x.undo();
        }
        CHECKS.due("undone", Make.all(x, 0, 3), "9 71 - / 2 - 71 / 4 - - / 8 - -");
    }

    private static void scenarios() {
        CHECKS.promise("Promises 39 to 42");
        NoteDocument x = numbered();
        x.put(0, 0, 1, sum(x, 0, 3));
        for (int scenario : new int[] {-1, 3, Integer.MIN_VALUE, Integer.MAX_VALUE}) {
            CHECKS.thrown("overlay", Checks.ARGUMENT, () -> x.overlay(scenario, 0, 0, 0, 1));
            CHECKS.thrown("overlay, no such cell", Checks.ARGUMENT, () -> x.overlay(scenario, 0, 4, 0, 1));
            CHECKS.thrown("drop", Checks.ARGUMENT, () -> x.drop(scenario));
            CHECKS.thrown("kindIn", Checks.ARGUMENT, () -> x.kindIn(scenario, 0, 0, 0));
            CHECKS.thrown("valueIn", Checks.ARGUMENT, () -> x.valueIn(scenario, 0, 0, 0));
            CHECKS.thrown("valueIn, no such cell", Checks.ARGUMENT, () -> x.valueIn(scenario, 0, 0, 9));
        }
        for (long number : new long[] {MOST + 1, -MOST - 1, Long.MIN_VALUE}) {
            CHECKS.thrown("number", Checks.ARGUMENT, () -> x.overlay(2, 0, 0, 0, number));
            CHECKS.thrown("number, no such cell", Checks.ARGUMENT, () -> x.overlay(2, 0, 0, 3, number));
            CHECKS.thrown("number, no number there", Checks.ARGUMENT, () -> x.overlay(2, 0, 0, 2, number));
        }
        CHECKS.thrown("nothing", Checks.STATE, () -> x.overlay(0, 0, 0, 2, 1));
        CHECKS.thrown("a formula", Checks.STATE, () -> x.overlay(0, 0, 0, 1, 1));
        x.hold(0, 0, 1, 3);
        CHECKS.thrown("a held number is none", Checks.STATE, () -> x.overlay(0, 0, 0, 1, 1));
        x.undo();
        CHECKS.due("no numbers yet", x.drop(1), 0);
        for (int i = 0; i < 4; i++) {
            CHECKS.due("how many", x.overlay(1, 0, i, 0, i == 0 ? -MOST : MOST), i + 1);
            CHECKS.due("the same one again", x.overlay(1, 0, i, 0, i == 0 ? MOST : -MOST), i + 1);
        }
        CHECKS.due("the sum", x.valueIn(1, 0, 0, 1), 2);
        CHECKS.due("is an error", x.kindIn(1, 0, 0, 1), 2);
        CHECKS.due("in another scenario", x.valueIn(2, 0, 0, 1), 15);
        CHECKS.due("out of scenarios", x.value(0, 0, 1), 15);
        CHECKS.due("a run", x.runs(), 1);
        x.set(0, 0, 0, 5);
        CHECKS.due("in place of whatever number", x.valueIn(1, 0, 0, 0), MOST);
        x.erase(0, 0, 0);
        CHECKS.due("nothing is in place of nothing", x.kindIn(1, 0, 0, 0), 0);
        x.set(0, 0, 0, 5);
        CHECKS.due("dropped", x.valueIn(1, 0, 0, 0), 5);
        x.put(0, 1, 0, x.number(6));
        CHECKS.due("dropped by a formula", x.valueIn(1, 0, 1, 0), 6);
        CHECKS.due("two are left", x.drop(1), 2);
        CHECKS.due("none is left", x.drop(1), 0);
        x.undo();
        x.undo();
        CHECKS.due("undone", x.valueIn(1, 0, 3, 0), -MOST);
        x.put(0, 2, 1, Make.cell(x, 3, 0));
        x.hold(0, 2, 1, 44);
        CHECKS.due("what is held is as it is", x.valueIn(1, 0, 2, 1), 44);
        CHECKS.due("empty", x.kindIn(0, 0, 0, 2), 0);
        CHECKS.due("empty is 0", x.valueIn(0, 0, 0, 2), 0);
        spillsInScenarios();
    }

    private static void spillsInScenarios() {
        NoteDocument x = Make.document(4, 2);
        x.set(0, 0, 1, 2);
        x.put(0, 0, 0, Make.list(x, 0, Make.cell(x, 0, 1)));
        x.overlay(0, 0, 0, 1, 4);
        x.overlay(1, 0, 0, 1, 5);
        x.overlay(2, 0, 0, 1, 0);
        CHECKS.due("spilled", x.valueIn(0, 0, 3, 0), 4);
        CHECKS.due("blocked", x.valueIn(1, 0, 0, 0), 5);
        CHECKS.due("an error", x.kindIn(1, 0, 0, 0), 2);
        CHECKS.due("nothing", x.kindIn(1, 0, 1, 0), 0);
        CHECKS.due("out of range", x.valueIn(2, 0, 0, 0), 2);
        CHECKS.due("out of scenarios", Make.all(x, 0, 1), "1 / 2 / - / -");
    }

    private static void goals() {
        CHECKS.promise("Promise 43");
        NoteDocument x = numbered();
        int a = x.cell(0, 0, 0, false);
        x.put(0, 3, 2, Make.two(x, Make.MULTIPLY, a, x.number(2)));
        for (int at : new int[] {-1, -10, 3, 9, 40, 33, Integer.MIN_VALUE, Integer.MAX_VALUE}) {
            CHECKS.thrown("of", Checks.INDEX, () -> x.seek(0, at, 0, 0, 0, 1));
            CHECKS.thrown("goal", Checks.INDEX, () -> x.seek(0, 0, at, 0, 0, 1));
            CHECKS.thrown("goal, least", Checks.INDEX, () -> x.seek(0, 0, at, 0, 1001, 0));
            CHECKS.thrown("goal, no number", Checks.INDEX, () -> x.seek(0, 1, at, 0, 0, 1));
        }
        for (int least : new int[] {-1001, 1001, Integer.MIN_VALUE, Integer.MAX_VALUE}) {
            CHECKS.thrown("least", Checks.ARGUMENT, () -> x.seek(0, 0, 0, 0, least, 1));
            CHECKS.thrown("least, no number", Checks.ARGUMENT, () -> x.seek(0, 1, 0, 0, least, 1));
        }
        for (int many : new int[] {0, -1, 41, Integer.MIN_VALUE, Integer.MAX_VALUE}) {
            CHECKS.thrown("many", Checks.ARGUMENT, () -> x.seek(0, 0, 0, 0, 0, many));
        }
        CHECKS.thrown("nothing", Checks.STATE, () -> x.seek(0, 1, 0, 0, 0, 1));
        CHECKS.thrown("a formula", Checks.STATE, () -> x.seek(0, 32, 0, 0, 0, 1));
        CHECKS.due("the least least", x.seek(0, 0, 32, -2000, -1000, 1), -1000);
        CHECKS.due("the only one tried", x.seek(0, 0, 32, -1999, -1000, 1), 1000000);
        CHECKS.due("the second one", x.seek(0, 0, 32, -1999, -1000, 2), -999);
        CHECKS.due("the greatest least", x.seek(0, 0, 32, 2000, 1000, 1), 1000);
        CHECKS.due("the last one of 40", x.seek(0, 0, 32, 2078, 1000, 40), 1039);
        CHECKS.due("one behind that", x.seek(0, 0, 32, 2079, 1000, 40), 1000000);
        CHECKS.due("the number wanted", x.seek(0, 0, 32, 10, 0, 40), 5);
        CHECKS.due("or greater", x.seek(0, 0, 32, 9, 0, 40), 5);
        CHECKS.due("whatever is wanted", x.seek(0, 0, 32, Long.MIN_VALUE, -7, 3), -7);
        CHECKS.due("whatever is wanted", x.seek(0, 0, 32, Long.MAX_VALUE, -7, 3), 1000000);
        CHECKS.due("another number", x.seek(0, 0, 30, 8, 0, 1), 0);
        CHECKS.due("what is empty is no number", x.seek(0, 0, 1, -5, 0, 40), 1000000);
        CHECKS.due("the number stays", x.value(0, 0, 0), 1);
        CHECKS.due("no runs", x.runs(), 0);
        CHECKS.due("not kept", x.undo(), 4);
        found();
    }

    private static void found() {
        NoteDocument x = numbered();
        int a = x.cell(0, 0, 0, false);
        x.put(0, 0, 2, Make.two(x, Make.ADD, Make.list(x, 0, a), x.number(0)));
        CHECKS.due("of a row its first value, errors are none", x.seek(0, 0, 2, 1, -5, 40), 1);
        CHECKS.due("an error's kind is no number", x.seek(0, 0, 2, 2, -5, 6), 1000000);
        CHECKS.due("what is spilled", x.seek(0, 0, 12, 2, -5, 40), 2);
        CHECKS.due("what is blocked", x.seek(0, 0, 32, 4, -5, 40), 4);
        x.put(0, 1, 1, a);
        x.hold(0, 1, 1, 50);
        CHECKS.due("what is held", x.seek(0, 0, 11, 50, -3, 1), -3);
        x.overlay(0, 0, 0, 0, 30);
        CHECKS.due("scenarios count for nothing", x.seek(0, 0, 0, 10, 0, 5), 1000000);
        x.setWay(2);
        CHECKS.due("by hand, too", x.seek(0, 0, 12, 2, 0, 40), 2);
    }

    private static void undone() {
        CHECKS.promise("Promise 44");
        for (int many = 1; many < 8; many++) {
            NoteDocument x = Make.document(3, 3);
            CHECKS.thrown("none is kept", Checks.STATE, x::undo);
            for (int i = 1; i <= many; i++) {
                x.set(0, 0, 0, i);
            }
            int kept = Math.min(many, 5);
            for (int i = 1; i <= kept; i++) {
                CHECKS.due("kept still", x.undo(), kept - i);
                CHECKS.due("undone", x.value(0, 0, 0), many - i);
            }
            CHECKS.thrown("none is kept", Checks.STATE, x::undo);
            CHECKS.due("the last 5 of " + many, x.kind(0, 0, 0), many <= 5 ? 0 : 1);
            x.set(0, 0, 0, 9);
            CHECKS.due("kept once more", x.undo(), 0);
        }
        eachCall();
        notUndone();
        broughtBack();
        nodesBehind();
    }

    /** Each call that is undoable is undone by itself. */
    private static void eachCall() {
        for (int i = 0; i < 22; i++) {
            NoteDocument x = ready();
            String before = state(x);
            undoable(x, i);
            NoteDocument y = ready();
            String after = state(undoable(y, i));
            CHECKS.due("kept", x.undo(), 4);
            CHECKS.due("undone: call " + i, state(x), before);
            CHECKS.due("it had done something: call " + i, !after.equals(before));
        }
    }

    private static NoteDocument ready() {
        NoteDocument x = Make.document(4, 3);
        int five = x.number(5);
        x.note();
        for (int i = 0; i < 3; i++) {
            x.set(0, i, 0, 3 - i);
        }
        int first = x.cell(0, 0, 0, false);
        x.name(0, first);
        x.define(0, x.leaf(2, 0));
        x.put(0, 0, 1, x.leaf(1, 0));
        x.put(0, 1, 1, Make.call(x, 0, five, five));
        int sum = Make.fold(x, 0, x.range(0, 0, 0, 1, 0));
        x.put(0, 2, 1, Make.two(x, Make.ADD, Make.two(x, Make.ADD, x.leaf(4, 0), x.leaf(5, 0)),
            Make.two(x, Make.ADD, x.leaf(6, 2), sum)));
        x.put(0, 3, 1, first);
        x.hold(0, 3, 1, 7);
        x.put(0, 0, 2, x.cell(0, 1, 0, true));
        x.show(0, 0, 1, 0, 0);
        x.show(0, 0, 2, 1, 0);
        x.overlay(0, 0, 0, 0, 9);
        return x;
    }

    private static NoteDocument undoable(NoteDocument x, int which) {
        int five = 0;
        switch (which) {
            case 0: x.set(0, 0, 0, 8); break;
            case 1: x.put(0, 0, 0, five); break;
            case 2: x.erase(0, 0, 0); break;
            case 3: x.hold(0, 3, 1, 0); break;
            case 4: x.rounds(3); break;
            case 5: x.name(0, five); break;
            case 6: x.define(0, 1); break;
            case 7: x.say(0, 2); break;
            case 8: x.show(0, 0, 0, 0, 0); break;
            case 9: x.tick(100, 1); break;
            case 10: x.insert(0, 0); break;
            case 11: x.remove(0, 0); break;
            case 12: x.move(0, 0, 0, 3, 2); break;
            case 13: x.sort(0, 0, 2, 0); break;
            case 14: x.overlay(0, 0, 1, 0, 4); break;
            case 15: x.drop(0); break;
            case 16: x.hold(0, 0, 1, 4); break;
            case 17: x.insert(0, 1); break;
            case 18: x.remove(0, 1); break;
            case 19: x.move(0, 1, 0, 1, 2); break;
            case 20: x.move(0, 1, 0, 0, 0); break;
            default: x.tick(0, 2);
        }
        return x;
    }

    private static String state(NoteDocument x) {
        StringBuilder text = new StringBuilder(Make.all(x, 0, 3));
        text.append(" | ").append(Make.text(x, 0)).append(" | ").append(x.torn());
        for (int i = 0; i < 3; i++) {
            text.append(' ').append(x.valueIn(0, 0, Math.min(i, x.rows(0) - 1), 0));
        }
        return text.toString();
    }

    /** What is not undoable is not kept, and stays. */
    private static void notUndone() {
        NoteDocument x = Make.document(2, 2);
        x.set(0, 0, 0, 1);
        x.grid(3, 1);
        x.note();
        int node = x.cell(1, 2, 0, false);
        x.setWay(2);
        x.calculate();
        CHECKS.due("one call was kept", x.undo(), 0);
        CHECKS.due("grids stay", x.rows(1), 3);
        CHECKS.due("notes stay", x.length(0), 0);
        CHECKS.due("nodes stay", x.number(0), node + 1);
        CHECKS.due("the way stays", x.setWay(0), 2);
        x.put(0, 0, 0, node);
        x.set(1, 2, 0, 6);
        CHECKS.due("the node", x.value(0, 0, 0), 6);
        x.insert(1, 0);
        x.undo();
        x.undo();
        x.undo();
        CHECKS.due("a grid that was made behind is as it was made", x.rows(1), 3);
        CHECKS.due("nothing is in it", x.kind(1, 2, 0), 0);
    }

    /** What was found ahead of a call is found again, and what the call changed is not. */
    private static void broughtBack() {
        NoteDocument x = Make.document(4, 2);
        x.set(0, 0, 0, 1);
        int a = Make.cell(x, 0, 0);
        x.put(0, 1, 0, a);
        x.put(0, 2, 0, Make.call(x, 0, a, a));
        x.define(0, a);
        CHECKS.due("two runs", x.calculate(), 2);
        x.set(0, 0, 0, 2);
        CHECKS.due("two more", x.calculate(), 2);
        CHECKS.due("calls", x.calls(), 2);
        x.undo();
        CHECKS.due("found again", Make.all(x, 0, 1), "1 / 1 / 1 / -");
        CHECKS.due("runs stay, and there is none", x.runs(), 4);
        CHECKS.due("calls stay, and there is none", x.calls(), 2);
        x.set(0, 0, 0, 2);
        x.undo();
        x.erase(0, 1, 0);
        x.undo();
        CHECKS.due("what was found for a formula that was erased", x.calculate(), 0);
        x.define(0, -1);
        x.calculate();
        x.define(0, a);
        CHECKS.due("two calls", x.calculate(), 1);
        x.undo();
        x.undo();
        CHECKS.due("what was found ahead of both", x.calculate(), 0);
        x.undo();
        NoteDocument z = Make.document(2, 2);
        z.put(0, 0, 0, z.number(3));
        z.set(0, 1, 1, 1);
        CHECKS.due("found behind the call", z.value(0, 0, 0), 3);
        z.undo();
        CHECKS.due("asked for again at once", z.value(0, 0, 0), 3);
        CHECKS.due("with a run, for it was not found ahead of the call", z.runs(), 2);
        NoteDocument y = Make.document(2, 1);
        y.put(0, 0, 0, y.number(3));
        y.put(0, 1, 0, Make.cell(y, 0, 0));
        y.undo();
        y.put(0, 1, 0, 1);
        CHECKS.due("nothing was found", y.calculate(), 2);
        y.undo();
        y.put(0, 1, 0, 1);
        CHECKS.due("what was found behind the call is not found ahead of it", y.calculate(), 2);
    }

    /** A CELL, SPILL or RANGE of which a cell is not there any more has the error 3, but is not torn. */
    private static void nodesBehind() {
        NoteDocument x = Make.document(9, 2);
        x.insert(0, 9);
        int cell = x.cell(0, 9, 0, false);
        int spill = x.cell(0, 9, 1, true);
        int range = Make.fold(x, 1, x.range(0, 0, 0, 9, 0));
        int last = x.range(0, 9, 0, 9, 1);
        x.undo();
        for (int node : new int[] {cell, spill, range, last}) {
            x.put(0, 0, 1, node);
            CHECKS.due("the error 3", Make.shown(x, 0, 0, 1), "!3");
            CHECKS.due("arose here", x.through(0, 0, 1), 1);
        }
        CHECKS.due("none is torn", x.torn(), 0);
        x.insert(0, 0);
        CHECKS.due("moved by a row that comes", Make.shown(x, 0, 1, 1), "!3");
        CHECKS.due("none is torn", x.remove(0, 9), 0);
        CHECKS.due("nor by one that goes ahead of it", x.remove(0, 8), 0);
        CHECKS.due("none is torn", x.remove(0, 7), 0);
        x.set(0, 6, 0, 4);
        x.put(0, 1, 1, cell);
        CHECKS.due("moved by rows that go", Make.shown(x, 0, 1, 1), "!3");
        farBehind();
        NoteDocument y = Make.document(4, 2);
        y.set(0, 2, 0, 6);
        y.set(0, 3, 0, 7);
        y.remove(0, 3);
        y.insert(0, 3);
        int far = y.cell(0, 3, 0, false);
        int whole = Make.fold(y, 0, y.range(0, 1, 0, 3, 0));
        y.undo();
        y.put(0, 0, 0, whole);
        y.put(0, 0, 1, far);
        CHECKS.due("not there", Make.all(y, 0, 2), "!3 !3 / - - / 6 -");
        CHECKS.due("a sort", y.sort(0, 0, 2, 0), 3);
        CHECKS.due("a sort leaves both", Make.all(y, 0, 2), "6 - / !3 !3 / - -");
        y.move(0, 1, 1, 2, 1);
        CHECKS.due("a move, too", Make.all(y, 0, 2), "6 - / !3 - / - !3");
        CHECKS.due("none is torn", y.torn(), 0);
        for (int i = 0; i < 5; i++) {
            y.undo();
        }
        y.put(0, 0, 1, whole);
        y.put(0, 1, 1, far);
        CHECKS.due("there again by undo()", Make.all(y, 0, 2), "- 13 / - 7 / 6 - / 7 -");
    }

    /** A node that refers to the eleventh row, by undo() and an insert, in a grid of ten rows. */
    private static void farBehind() {
        NoteDocument x = Make.document(9, 2);
        for (int i = 0; i < 9; i++) {
            x.set(0, i, 0, 9 - i);
        }
        x.insert(0, 9);
        int far = x.cell(0, 9, 0, false);
        int wide = x.range(0, 9, 0, 9, 1);
        x.undo();
        x.insert(0, 0);
        x.put(0, 0, 1, far);
        x.put(0, 1, 1, wide);
        CHECKS.due("the eleventh row is not there", Make.shown(x, 0, 0, 1), "!3");
        CHECKS.due("sorted", x.sort(0, 0, 9, 0), 10);
        CHECKS.due("the first row goes behind all", Make.all(x, 0, 2), "1 - / 2 - / 3 - / 4 - / 5 - / 6 - / 7 - / 8 - / "
            + "9 !3 / - !3");
        CHECKS.due("a row goes", x.remove(0, 0), 0);
        CHECKS.due("the tenth row is not there", Make.shown(x, 0, 8, 1), "!3");
        CHECKS.due("moved to the last row", x.move(0, 7, 0, 8, 0), 0);
        CHECKS.due("none is torn", x.torn(), 0);
    }

    /** Five rows of 9 to 5, a formula that is the last of 150 nodes, and three notes of 8 parts each. */
    private static NoteDocument full() {
        NoteDocument x = Make.document(5, 2);
        for (int i = 0; i < 5; i++) {
            x.set(0, i, 0, 9 - i);
        }
        Make.nodes(x, 149);
        x.put(0, 0, 1, x.cell(0, 3, 0, false));
        for (int note = 0; note < 3; note++) {
            x.note();
            for (int i = 0; i < 8; i++) {
                x.show(note, 0, (note + i) % 4, 0, 0);
            }
        }
        return x;
    }

    /** The last node, and the last part of the last note, go along, too. */
    private static void lastOnes() {
        CHECKS.promise("Promises 35 to 38 and 44, the last node and the last part");
        String[] before = {"98769876", "87698769", "76987698"};
        String[] torn = {"987!3987!3", "87!3987!39", "7!3987!398"};
        for (int call = 0; call < 6; call++) {
            NoteDocument x = full();
            due(x, call, "6", before);
            switch (call) {
                case 0:
                    x.insert(0, 0);
                    due(x, call, "6", before);
                    break;
                case 1:
                    x.remove(0, 4);
                    due(x, call, "6", before);
                    break;
                case 2:
                    CHECKS.due("one is torn", x.remove(0, 3), 1);
                    due(x, call, "!3", torn);
                    break;
                case 3:
                    CHECKS.due("none is torn", x.move(0, 3, 0, 4, 1), 0);
                    due(x, call, "66", before);
                    break;
                case 4:
                    CHECKS.due("one is torn", x.move(0, 1, 0, 3, 0), 1);
                    due(x, call, "!3", torn);
                    break;
                default:
                    CHECKS.due("sorted", x.sort(0, 0, 4, 0), 4);
                    due(x, call, "6", before);
            }
            x.undo();
            due(x, call, "6", before);
            x.set(0, 2, 0, 5);
            due(x, call, "6", "98569856", "85698569", "56985698");
        }
    }

    private static void due(NoteDocument x, int call, String node, String... notes) {
        String got = "";
        for (int row = 0; row < x.rows(0); row++) {
            got = got + (x.kind(0, row, 1) == 0 ? "" : Make.shown(x, 0, row, 1));
        }
        CHECKS.due("the last node, call " + call, got, node);
        for (int i = 0; i < 3; i++) {
            CHECKS.due("the note " + i + ", call " + call, Make.text(x, i), notes[i]);
        }
    }

    public static void main(String[] args) {
        inserts();
        removals();
        moves();
        sorts();
        lastOnes();
        scenarios();
        goals();
        undone();
        CHECKS.end();
    }
}
