import java.io.IOException;
import java.util.List;

/** The document's terms, sentence by sentence, up to the values of cells. */
public final class SentencesTest {
    private static final Checks CHECKS = new Checks();
    private static final Sentences SENTENCES = new Sentences(CHECKS);
    private static final long MOST = Checks.MOST;

    private static void says(String sentence) {
        SENTENCES.says(sentence);
    }

    private static void due(String what, Object got, Object want) {
        CHECKS.due(what, got, want);
    }

    private static void due(String what, long got, long want) {
        CHECKS.due(what, got, want);
    }

    /** What a formula comes to is due. */
    private static void comes(String what, Make.Formula formula, String want) {
        CHECKS.due(what, Make.of(formula), want);
    }

    /** A node that calls a function that nothing else calls, so that calls() tells whether it is run. */
    private static int told(NoteDocument x) {
        x.define(3, x.number(2));
        int zero = x.number(0);
        return Make.call(x, 3, zero, zero);
    }

    private static void whole() {
        SENTENCES.part("What it is");
        says("A document of grids, notes and functions that depend on one another: formulas of nodes, names, ranges and "
            + "whole columns, references that formulas make themselves, results that spill, are blocked and unblock "
            + "others, errors that travel with the cells that they came through, circles, held cells that run in rounds, "
            + "functions with memory, clocks, counters and draws, notes that show values and whose lengths are values, "
            + "inserts, removals, moves and sorts that rewrite references and tear some, scenarios, goals, and undo.");
        NoteDocument x = Make.document(6, 3);
        x.note();
        x.set(0, 0, 0, 3);
        x.set(0, 1, 0, 1);
        x.name(0, Make.fold(x, Make.FOLD_SUM, x.range(0, 0, 0, 1, 0)));
        x.define(0, Make.two(x, Make.ADD, x.leaf(2, 0), x.leaf(1, 0)));
        x.put(0, 0, 1, Make.each(x, 0, Make.upTo(x, 2), x.number(0)));
        x.put(0, 2, 1, Make.pick(x, 0, Make.cell(x, 1, 0), x.number(1)));
        x.put(0, 3, 1, x.leaf(3, 0));
        x.put(0, 4, 1, Make.two(x, Make.ADD, x.leaf(4, 0), x.leaf(5, 0)));
        x.show(0, 0, 2, 1, 0);
        due("names, functions, spills, PICK, lengths", Make.all(x, 0, 2), "3 5 / 1 6 / - 6 / - 1 / - 0 / - -");
        x.tick(7, 1);
        due("the clock and the counter", x.value(0, 4, 1), 8);
        x.put(0, 1, 1, x.leaf(1, 5));
        due("blocked; an error travels; a note's length", Make.all(x, 0, 2), "3 !5 / 1 !8 / - !8 / - 2 / - 8 / - -");
        due("through both", x.through(0, 2, 1), 2);
        due("from the first one", x.cause(0, 2, 1), 11);
        x.move(0, 1, 1, 5, 2);
        due("unblocked by a move", Make.shown(x, 0, 1, 1), "6");
        x.sort(0, 0, 1, 0);
        due("sorted: blocked where it went", Make.all(x, 0, 2), "1 - / 3 !5 / - !5 / - 2 / - 8 / - -");
        x.undo();
        x.undo();
        x.undo();
        due("undone", Make.all(x, 0, 2), "3 5 / 1 6 / - 6 / - 1 / - 8 / - -");
        x.overlay(0, 0, 1, 0, 0);
        due("a scenario", x.valueIn(0, 0, 2, 1), 4);
        due("a goal: PICK leads to what is wanted, by way of circles", x.seek(0, 10, 21, 8, 0, 5), 4);

        says("An object is used for at most 512 calls after it has been made; what later calls answer is free.");
        NoteDocument y = new NoteDocument();
        y.grid(1, 1);
        for (int i = 2; i < 512; i++) {
            y.set(0, 0, 0, i);
        }
        due("the 512th call", y.value(0, 0, 0), 511);
        due("one more does not fail", y.value(0, 0, 0), 511);
    }

    private static void terms() {
        SENTENCES.part("Terms");
        says("Formulas are run as far as is asked and no further: each only if something that it read has changed.");
        NoteDocument x = Make.document(4, 2);
        int a = Make.cell(x, 0, 0);
        x.set(0, 0, 0, 1);
        x.put(0, 1, 0, a);
        x.put(0, 2, 0, Make.cell(x, 1, 0));
        x.put(0, 3, 0, x.number(4));
        x.value(0, 1, 0);
        due("what was not asked for is not run", x.runs(), 1);
        x.value(0, 2, 0);
        due("nor what it needs anew", x.runs(), 2);
        x.set(0, 0, 1, 5);
        x.calculate();
        due("only what was never found", x.runs(), 3);
        x.set(0, 0, 0, 2);
        due("nothing is run ahead of being asked for", x.runs(), 3);
        due("those that read what has changed", x.calculate(), 2);
    }

    private static void grids() {
        SENTENCES.part("Grids");
        says("Grids are numbered from 0, at most 4; a grid has 1 to 10 rows and 1 to 5 columns, each numbered from 0.");
        NoteDocument x = new NoteDocument();
        for (int i = 0; i < 4; i++) {
            int grid = i;
            CHECKS.thrown("not there yet", Checks.INDEX, () -> x.rows(grid));
            due("numbered from 0", x.grid(i < 2 ? 1 : 10, i % 2 == 0 ? 1 : 5), i);
        }
        CHECKS.thrown("at most 4", Checks.STATE, () -> x.grid(1, 1));
        due("rows and columns from 0", Make.all(x, 1, 5), "- - - - -");
        CHECKS.thrown("no row behind", Checks.INDEX, () -> x.kind(1, 1, 0));
        CHECKS.thrown("no column behind", Checks.INDEX, () -> x.kind(1, 0, 5));
        x.set(3, 9, 4, 6);
        due("the last cell of all", Make.shown(x, 3, 9, 4), "6");

        says("A cell of a grid has a content: nothing, a number, or a formula, which is a node.");
        due("a number", x.erase(3, 9, 4), 1);
        due("nothing", x.erase(3, 9, 4), 0);
        x.put(3, 9, 4, x.number(6));
        due("a formula", x.erase(3, 9, 4), 2);

        says("Numbers are whole, from -10^15 to 10^15.");
        for (long number : new long[] {-MOST, MOST}) {
            x.set(0, 0, 0, number);
            due("as a content", x.value(0, 0, 0), number);
            x.put(0, 0, 0, x.number(number));
            due("as a node", x.value(0, 0, 0), number);
            due("held", x.hold(0, 0, 0, number), true);
            x.set(0, 0, 0, 0);
            due("in a scenario", x.overlay(0, 0, 0, 0, number) * 0 + x.valueIn(0, 0, 0, 0), number);
            long more = number < 0 ? number - 1 : number + 1;
            CHECKS.thrownBy("set", Checks.ARGUMENT, () -> x.set(0, 0, 0, more));
            CHECKS.thrown("number", Checks.ARGUMENT, () -> x.number(more));
            CHECKS.thrown("overlay", Checks.ARGUMENT, () -> x.overlay(0, 0, 0, 0, more));
            comes("as a value", y -> Make.two(y, Make.ADD, y.number(number), y.number(number < 0 ? -1 : 1)), "!2");
        }

        says("By their places cells come by grids, in a grid row by row.");
        comes("a RANGE has them so", y -> {
            for (int i = 0; i < 6; i++) {
                y.set(0, i / 2, i % 2, i + 1);
            }
            return y.range(0, 0, 0, 2, 1);
        }, "1 2 3 4 5 6");
        NoteDocument y = Make.document(2, 2);
        y.grid(2, 2);
        int[] cells = {0, 1, 10, 11, 100, 101, 110, 111};
        for (int cell : cells) {
            int zero = y.number(0);
            y.put(cell / 100, cell / 10 % 10, cell % 10, Make.two(y, Make.DIVIDE, zero, zero));
            due("a cell's number, by its place", y.cause(cell / 100, cell / 10 % 10, cell % 10), cell);
        }
    }

    private static void values() {
        SENTENCES.part("Values");
        says("A value is empty, a number, an error, or a row of 1 to 50 of these.");
        comes("empty", Make::empty, "-");
        comes("a number", y -> y.number(-4), "-4");
        comes("an error", Make::error, "!1");
        comes("a row of each", y -> {
            y.set(0, 0, 3, 5);
            y.put(0, 1, 3, Make.error(y));
            return y.range(0, 0, 3, 2, 3);
        }, "5 !1 -");
        comes("a row of 1", y -> Make.fold(y, Make.FOLD_COUNT, Make.upTo(y, 1)), "1");
        comes("a row of 50", y -> {
            y.grid(10, 5);
            return Make.fold(y, Make.FOLD_COUNT, Make.two(y, Make.ADD, y.range(1, 0, 0, 9, 4), y.number(1)));
        }, "50");

        says("An error has a kind: 1 division by 0; 2 a number out of range; 3 a reference that is torn, or leads out of "
            + "a grid; 4 a circle; 5 a row that is blocked; 6 a row where none can be, or none where one must be; 7 rows "
            + "of unlike lengths; 8 nothing there.");
        comes("1", y -> Make.two(y, Make.DIVIDE, y.number(5), y.number(0)), "!1");
        comes("2", y -> Make.two(y, Make.MULTIPLY, y.number(MOST), y.number(MOST)), "!2");
        comes("3, out of a grid", y -> Make.pick(y, 0, y.number(10), y.number(0)), "!3");
        NoteDocument x = Make.document(3, 2);
        x.put(0, 0, 1, Make.cell(x, 2, 0));
        x.remove(0, 2);
        due("3, torn", Make.shown(x, 0, 0, 1), "!3");
        comes("4", y -> y.cell(0, 0, 4, false), "!4");
        comes("5", y -> {
            y.set(0, 1, 4, 1);
            return Make.upTo(y, 2);
        }, "!5");
        comes("6, a row where none can be", y -> y.when(Make.upTo(y, 2), y.number(1), y.number(1)), "!6");
        comes("6, none where one must be", y -> Make.fold(y, 0, y.number(1)), "!6");
        comes("7", y -> Make.two(y, Make.ADD, Make.upTo(y, 1), Make.upTo(y, 2)), "!7");
        comes("8", y -> y.leaf(1, 0), "!8");
        errors();
    }

    private static void errors() {
        says("An error that arises in the run of a cell's formula, or of names and functions that it asks for, has come "
            + "through this cell alone; one that is read from a cell, and is, or is in, the result of another cell's "
            + "formula, has come through that other cell, then through those through which it had come (an error of a "
            + "cell B, in a cell C that reads it: through C, then B; what a name or a function found has come through no "
            + "cell until a cell's formula gives it).");
        NoteDocument x = Make.document(8, 4);
        int broken = Make.error(x);
        int zero = x.number(0);
        x.name(0, broken);
        x.name(1, x.leaf(1, 0));
        x.define(0, broken);
        x.define(1, Make.two(x, Make.ADD, x.leaf(1, 1), x.leaf(2, 0)));
        int[] here = {broken, x.leaf(1, 0), x.leaf(1, 1), Make.call(x, 0, zero, zero), Make.call(x, 1, zero, zero)};
        for (int i = 0; i < here.length; i++) {
            x.put(0, i, 0, here[i]);
            due("through this cell alone", x.through(0, i, 0), 1);
            due("arose here", x.cause(0, i, 0), 10 * i);
        }
        x.put(0, 0, 1, Make.cell(x, 4, 0));
        due("through C, then B", x.through(0, 0, 1), 2);
        due("arose in B", x.cause(0, 0, 1), 40);
        x.put(0, 1, 1, Make.flawed(x, 3, 2));
        x.put(0, 0, 2, Make.cell(x, 2, 1));
        due("is in the result of another cell's formula", x.through(0, 0, 2), 2);
        due("arose where the row was found", x.cause(0, 0, 2), 11);
        x.put(0, 1, 2, Make.item(x, Make.spill(x, 1, 1), x.number(2)));
        due("the same by SPILL", x.through(0, 1, 2), 2);
        x.put(0, 2, 2, Make.list(x, 1, x.range(0, 0, 1, 2, 1)));
        due("in a row: through this cell and that one", x.through(0, 2, 2), 2);
        due("in a row: through a third one", x.through(0, 4, 2), 3);
        due("in a row: where it arose", x.cause(0, 4, 2), 40);
        x.name(2, Make.cell(x, 0, 1));
        x.put(0, 0, 3, x.leaf(1, 2));
        due("a name that reads a cell adds none", x.through(0, 0, 3), 3);
        x.put(0, 1, 3, Make.orElse(x, Make.cell(x, 0, 3), x.leaf(1, 5)));
        due("one that arises in place of another one", x.through(0, 1, 3), 1);
    }

    private static void nodes() {
        SENTENCES.part("Nodes");
        says("Nodes are numbered from 0 as they are made, at most 150; a node is made of earlier ones, its parts.");
        NoteDocument x = Make.document(2, 2);
        due("numbered from 0", x.number(5), 0);
        due("of whichever kind", x.cell(0, 0, 0, true), 1);
        CHECKS.thrown("itself is no earlier one", Checks.INDEX, () -> Make.two(x, Make.ADD, 0, 2));
        due("the next one", Make.two(x, Make.ADD, 0, 1), 2);
        x.set(0, 0, 0, 1);
        x.undo();
        due("undo() gives none back", x.leaf(4, 0), 3);
        Make.nodes(x, 150);
        CHECKS.thrown("at most 150", Checks.STATE, () -> x.leaf(4, 0));

        says("The weight of a node is 1 more than the weights of its parts together, at most 40.");
        NoteDocument y = new NoteDocument();
        int half = Make.weighing(y, 19);
        int whole = Make.two(y, Make.ADD, half, half);
        due("39: one part may come on top", y.node(1, 0, whole, 0) > whole, true);
        CHECKS.thrown("41: two are too many", Checks.STATE, () -> Make.two(y, Make.ADD, whole, 0));
        CHECKS.thrown("41: three are too many", Checks.STATE, () -> y.when(half, half, 1));

        taken();
        leaves();
        twos();
        parts();
        functions();
    }

    private static void taken() {
        says("A node has a value where it is run, found from its parts, which are run in their order, each only where it "
            + "is told; all parts are run, but where it is told otherwise. \"Taken\" means that an error among the parts "
            + "taken, the first one, is the value; an empty value taken as a number is 0; a row taken as a number is the "
            + "error 6.");
        // A part that is run is told by calls().
        Object[][] cases = {
            {"TWO behind an error", (Make.Formula) y -> Make.two(y, Make.ADD, Make.error(y), told(y)), 1},
            {"ITEM behind what is no row", (Make.Formula) y -> Make.item(y, y.number(1), told(y)), 1},
            {"PICK behind an error", (Make.Formula) y -> Make.pick(y, 0, Make.error(y), told(y)), 1},
            {"CALL behind an error", (Make.Formula) y -> Make.call(y, 0, Make.error(y), told(y)), 1},
            {"EACH behind what is no row", (Make.Formula) y -> Make.each(y, 0, y.number(1), told(y)), 1},
            {"ELSE behind what is no error", (Make.Formula) y -> Make.orElse(y, y.number(1), told(y)), 0},
            {"ELSE behind an error", (Make.Formula) y -> Make.orElse(y, Make.error(y), told(y)), 1},
            {"WHEN behind an error, second", (Make.Formula) y -> y.when(Make.error(y), told(y), y.number(1)), 0},
            {"WHEN behind an error, third", (Make.Formula) y -> y.when(Make.error(y), y.number(1), told(y)), 0},
            {"WHEN, second", (Make.Formula) y -> y.when(y.number(-1), told(y), y.number(1)), 1},
            {"WHEN, not the third", (Make.Formula) y -> y.when(y.number(-1), y.number(1), told(y)), 0},
            {"WHEN, third", (Make.Formula) y -> y.when(y.number(0), y.number(1), told(y)), 1},
            {"WHEN, not the second", (Make.Formula) y -> y.when(y.number(0), told(y), y.number(1)), 0},
        };
        for (Object[] one : cases) {
            NoteDocument x = Make.with((Make.Formula) one[1]);
            x.value(0, 0, 4);
            due((String) one[0], x.calls(), (int) one[2]);
        }
        comes("the first error of both", y -> Make.two(y, Make.ADD, Make.error(y), y.leaf(1, 0)), "!1");
        comes("the first error of both", y -> Make.two(y, Make.ADD, y.leaf(1, 0), Make.error(y)), "!8");
        comes("the first error of PICK", y -> Make.pick(y, 0, y.leaf(1, 0), Make.error(y)), "!8");
        comes("the first error of CALL", y -> Make.call(y, 0, y.leaf(1, 0), Make.error(y)), "!8");
        comes("a row is an error ahead of another one", y -> Make.pick(y, 0, Make.upTo(y, 2), Make.error(y)), "!6");
        comes("an error ahead of a row", y -> Make.call(y, 0, Make.error(y), Make.upTo(y, 2)), "!1");
        comes("empty is 0: TWO", y -> Make.two(y, Make.ADD, Make.empty(y), y.number(5)), "5");
        comes("empty is 0: WHEN", y -> y.when(Make.empty(y), y.number(1), y.number(2)), "2");
        comes("empty is 0: LIST", y -> Make.list(y, 0, Make.empty(y)), "!2");
        comes("empty is 0: ITEM", y -> Make.item(y, Make.upTo(y, 2), Make.empty(y)), "!8");
        comes("empty is 0: PICK", y -> Make.pick(y, 0, Make.empty(y), y.number(4)), "!4");
        comes("empty is 0: CALL", y -> {
            y.define(0, y.leaf(2, 1));
            return Make.call(y, 0, y.number(1), Make.empty(y));
        }, "0");
        comes("a row: WHEN", y -> y.when(Make.upTo(y, 1), y.number(1), y.number(2)), "!6");
        comes("a row: LIST", y -> Make.list(y, 0, Make.upTo(y, 1)), "!6");
        comes("a row: ITEM", y -> Make.item(y, Make.upTo(y, 2), Make.upTo(y, 1)), "!6");
        comes("a row: PICK", y -> Make.pick(y, 0, y.number(0), Make.upTo(y, 1)), "!6");
        comes("a row: CALL", y -> Make.call(y, 0, Make.upTo(y, 1), y.number(0)), "!6");
        comes("a row: EACH", y -> Make.each(y, 0, Make.upTo(y, 2), Make.upTo(y, 2)), "!6");
    }

    private static void leaves() {
        says("NUMBER: that.");
        comes("a number", y -> y.number(MOST), "" + MOST);

        says("CELL of a grid, row and column: the value of the cell; of a row its first one.");
        NoteDocument x = Make.document(4, 3);
        x.grid(2, 2);
        x.set(1, 1, 1, 9);
        x.put(0, 0, 0, x.cell(1, 1, 1, false));
        x.put(0, 0, 1, Make.upTo(x, 3));
        x.put(0, 0, 2, Make.cell(x, 0, 1));
        x.put(0, 3, 2, Make.cell(x, 2, 1));
        due("of another grid; of a row its first one; of what is spilled", Make.all(x, 0, 3),
            "9 1 1 / - 2 - / - 3 - / - - 3");
        due("it spills nothing", x.spills(0, 0, 2), 1);

        says("RANGE of a grid, from a row and column to others: the row of the values of its cells, row by row, each as "
            + "CELL tells.");
        comes("row by row", y -> {
            y.put(0, 0, 0, Make.upTo(y, 3));
            y.set(0, 0, 1, 10);
            y.put(0, 1, 1, Make.error(y));
            return y.range(0, 0, 0, 2, 1);
        }, "1 10 2 !1 3 -");

        says("COLUMN of a grid: the same for all cells of it.");
        comes("all ten", y -> {
            y.put(0, 0, 0, Make.upTo(y, 3));
            y.set(0, 9, 0, 10);
            return y.leaf(0, 0);
        }, "1 2 3 - - - - - - 10");
        NoteDocument y = Make.document(2, 2);
        y.grid(3, 2);
        y.set(1, 2, 1, 6);
        y.put(0, 0, 0, Make.fold(y, Make.FOLD_COUNT, y.leaf(0, 11)));
        due("of a grid", Make.shown(y, 0, 0, 0), "1");

        says("SPILL of a cell: its value as it is, a row as a row.");
        comes("a row", z -> {
            z.put(0, 5, 0, Make.upTo(z, 3));
            return Make.spill(z, 5, 0);
        }, "1 2 3");
        comes("what is spilled into is no row", z -> {
            z.put(0, 5, 0, Make.upTo(z, 3));
            return Make.spill(z, 6, 0);
        }, "2");
        comes("a blocked one", z -> {
            z.put(0, 9, 0, Make.upTo(z, 3));
            return Make.spill(z, 9, 0);
        }, "!5");
        comes("a number", z -> {
            z.set(0, 9, 0, 3);
            return Make.spill(z, 9, 0);
        }, "3");

        says("NAME, 0 to 5: the value of the node that the name stands for; the error 8 if it stands for none.");
        for (int i = 0; i < 6; i++) {
            int name = i;
            comes("of none", z -> z.leaf(1, name), "!8");
            comes("a row", z -> {
                z.name(name, Make.upTo(z, 3));
                return z.leaf(1, name);
            }, "1 2 3");
            comes("of none any more", z -> {
                z.name(name, Make.upTo(z, 3));
                z.name(name, -1);
                return z.leaf(1, name);
            }, "!8");
        }
    }

    /** TWO of two numbers by a sign. */
    private static void two(int sign, long first, long second, String want) {
        comes("sign " + sign + " of " + first + ", " + second,
            y -> Make.two(y, sign, y.number(first), y.number(second)), want);
    }

    private static void twos() {
        says("TWO, of a sign and two parts: 0 adds, 1 takes away, 2 multiplies, 3 divides, rounded down (the error 1 by "
            + "0), 4 is the rest of that (likewise), 5 is the lesser one, 6 the greater one, 7 is 1 if the first one is "
            + "less than the second one, else 0, 8 is 1 if they are the same, else 0; 9 is the first one as a float, "
            + "divided by the second one as a float, times 1000 as a float, made a whole number by leaving out what is "
            + "behind the point (the error 1 by 0).");
        String[][] wants = {{"-3", "3", "0"}, {"-11", "11", "0"}, {"-28", "-28", "0"}, {"-2", "-2", "!1"},
            {"1", "-1", "!1"}, {"-7", "-4", "0"}, {"4", "7", "0"}, {"1", "0", "0"}, {"0", "0", "1"},
            {"-1750", "-1750", "!1"}};
        long[][] pairs = {{-7, 4}, {7, -4}, {0, 0}};
        for (int sign = 0; sign < 10; sign++) {
            for (int i = 0; i < 3; i++) {
                two(sign, pairs[i][0], pairs[i][1], wants[sign][i]);
            }
        }
        two(3, -7, -4, "1");
        two(4, -7, -4, "-3");
        two(7, 4, -7, "0");
        two(7, -7, -7, "0");
        two(8, -7, -7, "1");
        two(9, 4, 7, "571");
        two(9, -4, 7, "-571");
        two(9, 1, 3, "333");
        two(9, 2, 3, "666");
        two(9, 1, 1001, "0");
        two(9, -1, 1001, "0");
        two(9, 0, 5, "0");
        two(9, 5, 0, "!1");
        two(9, 16777217, 1, "16777216000");
        // 10^12 as a float is 999999995904; a thousand times that is no float, the nearest one is it.
        two(9, 1000000000000L, 1, "999999986991104");
        two(9, MOST, MOST, "1000");

        says("Each value is taken as a number; what is out of range is the error 2.");
        two(0, MOST, 1, "!2");
        two(1, -MOST, 1, "!2");
        two(2, MOST, -2, "!2");
        two(9, MOST, 1, "!2");
        two(9, -MOST, 1, "!2");
        comes("empty values", y -> Make.two(y, 8, Make.empty(y), y.number(0)), "1");

        says("If one of both is a row, it is done with each of its values and the other one; if both are, with the first "
            + "ones, the second ones, and so on, the error 7 if they have unlike lengths; then errors stand in the row, "
            + "where they come, but an error that is no row is the value itself, the first part's ahead of the second "
            + "one's.");
        comes("a row and a number", y -> Make.two(y, Make.SUBTRACT, Make.upTo(y, 3), y.number(10)), "-9 -8 -7");
        comes("a number and a row", y -> Make.two(y, Make.SUBTRACT, y.number(10), Make.upTo(y, 3)), "9 8 7");
        comes("a row and nothing", y -> Make.two(y, Make.ADD, Make.upTo(y, 3), Make.empty(y)), "1 2 3");
        comes("both rows", y -> Make.two(y, Make.MULTIPLY, Make.upTo(y, 3), Make.upTo(y, 3)), "1 4 9");
        comes("one longer", y -> Make.two(y, Make.ADD, Make.upTo(y, 3), Make.upTo(y, 2)), "!7");
        comes("a row of one value is a row", y -> Make.two(y, Make.ADD, Make.upTo(y, 1), Make.upTo(y, 2)), "!7");
        comes("errors stand in the row", y -> Make.two(y, Make.ADD, Make.flawed(y, 3, 2), y.number(1)), "-11 !1 13");
        comes("the first one's ahead in each place", y -> Make.two(y, Make.ADD,
            Make.two(y, Make.ADD, Make.flawed(y, 2, 2), y.number(MOST - 5)), Make.flawed(y, 2, 2)),
            (MOST - 29) + " !1");
        comes("out of range in a row", y -> Make.two(y, Make.ADD, Make.upTo(y, 2), y.number(MOST - 1)), MOST + " !2");
        comes("an error and a row", y -> Make.two(y, Make.ADD, Make.error(y), Make.upTo(y, 2)), "!1");
        comes("a row and an error", y -> Make.two(y, Make.ADD, Make.upTo(y, 2), Make.error(y)), "!1");
        comes("a row with an error and an error", y -> Make.two(y, Make.ADD, Make.flawed(y, 2, 1), y.leaf(1, 0)), "!8");
    }

    private static void parts() {
        says("WHEN, of three: the first one taken as a number; if it is not 0, the second one, which is run then, "
            + "otherwise the third one.");
        for (long first : new long[] {1, -1, MOST, 0}) {
            comes("of " + first, y -> y.when(y.number(first), y.number(7), y.number(8)), first == 0 ? "8" : "7");
        }
        comes("a row as it is", y -> y.when(y.number(0), y.number(7), Make.upTo(y, 3)), "1 2 3");
        comes("an error", y -> y.when(Make.error(y), y.number(7), y.number(8)), "!1");

        says("FOLD, of a sign and a part: the part must be a row (the error 6 otherwise, but an error stays); the first "
            + "error in it is the value; of its numbers 0 the sum, 1 how many, 2 the greatest, 3 the least one; 2 and 3 "
            + "of none are the error 8.");
        String[] folded = {"2", "4", "9", "-8"};
        String[] ofNone = {"0", "0", "!8", "!8"};
        for (int i = 0; i < 4; i++) {
            int sign = i;
            comes("of numbers", y -> Make.fold(y, sign, Make.row(y, 9, -8, 0, 1)), folded[i]);
            comes("of a row without numbers", y -> Make.fold(y, sign, y.range(0, 3, 0, 5, 2)), ofNone[i]);
            comes("of a number", y -> Make.fold(y, sign, y.number(3)), "!6");
            comes("of nothing", y -> Make.fold(y, sign, Make.empty(y)), "!6");
            comes("of an error", y -> Make.fold(y, sign, y.leaf(1, 0)), "!8");
            comes("of a row with an error", y -> Make.fold(y, sign, Make.flawed(y, 3, 3)), "!1");
            comes("the first one", y -> {
                y.put(0, 1, 3, y.leaf(1, 0));
                y.put(0, 2, 3, Make.error(y));
                return Make.fold(y, sign, y.range(0, 0, 3, 4, 3));
            }, "!8");
        }
        comes("a sum out of range", y -> Make.fold(y, 0, Make.row(y, MOST, 1)), "!2");
        comes("a sum that is in range at its end", y -> Make.fold(y, 0, Make.row(y, MOST, 1, -1)), "" + MOST);

        says("LIST, of a sign and a part: 0: taken as a number n, the row 1 to n, the error 2 unless it is 1 to 20; of a "
            + "row (the error 6 otherwise, but an error stays) 1 its values reversed; 2 its numbers, rising, the first "
            + "error in it being the value; 3 likewise its numbers above 0, as they stand; 2 and 3 of none are the error "
            + "8.");
        comes("1 to n", y -> Make.upTo(y, 4), "1 2 3 4");
        comes("1 to 1", y -> Make.fold(y, 0, Make.upTo(y, 1)), "1");
        comes("1 to 20", y -> Make.fold(y, 0, Make.upTo(y, 20)), "210");
        for (long none : new long[] {0, 21, -1, MOST}) {
            comes("not 1 to 20", y -> Make.upTo(y, none), "!2");
        }
        comes("of an error", y -> Make.list(y, 0, y.leaf(1, 0)), "!8");
        String[] lists = {"", "5 - -3 5", "-3 5 5", "5 5"};
        String[] flawed = {"", "!1 6 - 3", "!1", "!1"};
        for (int i = 1; i < 4; i++) {
            int sign = i;
            comes("of a row", y -> {
                y.set(0, 0, 3, 5);
                y.set(0, 1, 3, -3);
                y.set(0, 3, 3, 5);
                return Make.list(y, sign, y.range(0, 0, 3, 3, 3));
            }, lists[i]);
            comes("with an error", y -> {
                y.set(0, 0, 3, 3);
                y.set(0, 2, 3, 6);
                y.put(0, 3, 3, Make.error(y));
                return Make.list(y, sign, y.range(0, 0, 3, 3, 3));
            }, flawed[i]);
            comes("of a number", y -> Make.list(y, sign, y.number(1)), "!6");
            comes("of an error", y -> Make.list(y, sign, y.leaf(1, 0)), "!8");
            comes("of none", y -> Make.list(y, sign, y.range(0, 5, 0, 6, 0)), sign == 1 ? "- -" : "!8");
        }
        comes("none above 0", y -> Make.list(y, 3, Make.row(y, 0, -1)), "!8");

        says("ITEM, of two: the first one must be a row, as with FOLD; the second one taken as a number k: the value at "
            + "the place k of the row, from 1 on, the error 8 if there is none.");
        String[] items = {"!8", "-12", "!1", "12", "!8"};
        for (int i = 0; i < 5; i++) {
            int place = i;
            comes("at " + i, y -> Make.item(y, Make.flawed(y, 3, 2), y.number(place)), items[i]);
        }
        comes("an empty value", y -> Make.item(y, y.range(0, 3, 0, 4, 0), y.number(2)), "-");
        comes("no row", y -> Make.item(y, y.number(1), y.number(1)), "!6");
        comes("an error stays", y -> Make.item(y, Make.error(y), y.number(1)), "!1");
        comes("at an error", y -> Make.item(y, Make.upTo(y, 2), y.leaf(1, 0)), "!8");
        comes("at the greatest number", y -> Make.item(y, Make.upTo(y, 2), y.number(MOST)), "!8");
        comes("at what wraps around to 1", y -> Make.item(y, Make.upTo(y, 2), y.number((1L << 32) + 1)), "!8");

        says("PICK of a grid, of two: both taken as numbers: the value of the cell of that row and column, as CELL tells; "
            + "the error 3 if there is none.");
        int[][] at = {{9, 3}, {0, 3}, {1, 3}, {2, 3}, {10, 0}, {0, 5}, {-1, 0}, {0, -1}};
        String[] picked = {"6", "1", "2", "-", "!3", "!3", "!3", "!3"};
        for (int i = 0; i < at.length; i++) {
            int[] one = at[i];
            comes("PICK", y -> {
                y.set(0, 9, 3, 6);
                y.put(0, 0, 3, Make.upTo(y, 2));
                return Make.pick(y, 0, y.number(one[0]), y.number(one[1]));
            }, picked[i]);
        }
        comes("a row that wraps around to 0", y -> Make.pick(y, 0, y.number(1L << 32), y.number(0)), "!3");
        comes("of another grid", y -> {
            y.grid(2, 2);
            y.set(1, 1, 0, 8);
            return Make.pick(y, 1, y.number(1), y.number(0));
        }, "8");
    }

    private static void functions() {
        says("CALL of a function, of two: both taken as numbers, each 0 to 12, the error 2 otherwise: the value of the "
            + "function for them.");
        long[][] pairs = {{0, 0}, {12, 12}, {3, 11}, {-1, 0}, {0, -1}, {13, 0}, {0, 13}, {1L << 32, 0}, {0, MOST}};
        String[] called = {"0", "132", "41", "!2", "!2", "!2", "!2", "!2", "!2"};
        for (int i = 0; i < pairs.length; i++) {
            long[] pair = pairs[i];
            comes("CALL", y -> {
                y.define(3, Make.two(y, Make.ADD, Make.two(y, Make.MULTIPLY, y.leaf(2, 0), y.number(10)), y.leaf(2, 1)));
                return Make.call(y, 3, y.number(pair[0]), y.number(pair[1]));
            }, called[i]);
        }
        comes("a row as it is", y -> {
            y.define(0, Make.upTo(y, 3));
            return Make.call(y, 0, y.number(1), y.number(1));
        }, "1 2 3");

        says("EACH of a function, of two: the first one must be a row, as with FOLD, the second one taken as a number: "
            + "the row of the values of CALL for each value of the row and that number, errors standing in it where they "
            + "come; a row as such a value is the error 6 in its place.");
        comes("for each value", y -> {
            y.define(1, Make.two(y, Make.SUBTRACT, y.leaf(2, 1), y.leaf(2, 0)));
            return Make.each(y, 1, Make.row(y, 2, 12, 13, 0, -1), y.number(3));
        }, "1 -9 !2 3 !2");
        comes("errors, empty values, rows", y -> {
            y.define(1, Make.list(y, 0, y.leaf(2, 0)));
            y.set(0, 0, 3, 1);
            y.set(0, 1, 3, 2);
            y.put(0, 3, 3, y.leaf(1, 0));
            return Make.each(y, 1, y.range(0, 0, 3, 3, 3), y.number(0));
        }, "!6 !6 !2 !8");
        comes("no row", y -> Make.each(y, 1, y.number(1), y.number(0)), "!6");
        comes("an error stays", y -> Make.each(y, 1, Make.error(y), y.number(0)), "!1");
        comes("the second one is an error", y -> Make.each(y, 1, Make.upTo(y, 2), Make.error(y)), "!1");
        comes("the second one is out of range", y -> Make.each(y, 1, Make.upTo(y, 2), y.number(13)), "!2 !2");
        comes("no body", y -> Make.each(y, 1, Make.upTo(y, 2), y.number(0)), "!8 !8");

        says("GIVEN, 0 or 1: in the body of a function what it is called with; elsewhere the error 8.");
        for (int i = 0; i < 2; i++) {
            int which = i;
            comes("in a body", y -> {
                y.define(0, y.leaf(2, which));
                return Make.call(y, 0, y.number(4), y.number(9));
            }, i == 0 ? "4" : "9");
            comes("in a body that calls another one", y -> {
                y.define(0, Make.two(y, Make.ADD, Make.call(y, 1, y.number(1), y.number(2)), y.leaf(2, which)));
                y.define(1, Make.two(y, Make.MULTIPLY, y.leaf(2, which), y.number(100)));
                return Make.call(y, 0, y.number(4), y.number(9));
            }, i == 0 ? "104" : "209");
            comes("elsewhere", y -> y.leaf(2, which), "!8");
        }

        says("LENGTH of a note: how many characters it has.");
        comes("of a note", y -> {
            y.note();
            y.note();
            y.say(1, 5);
            y.set(0, 0, 0, -1000);
            y.show(1, 0, 0, 0, 1);
            return y.leaf(3, 1);
        }, "11");
        comes("of an empty note", y -> y.leaf(3, y.note()), "0");

        says("CLOCK, COUNTER, DRAW 0 to 9: the time; how many ticks there were; the remainder by 1000 of 7919 times ((31 "
            + "times the seed, plus how many ticks there were), times 31, plus the number of the draw).");
        comes("without a tick", y -> Make.two(y, Make.ADD, y.leaf(4, 0), y.leaf(5, 0)), "0");
        for (int draw = 0; draw < 10; draw++) {
            int which = draw;
            // 31 * 3 + 2 = 95, 95 * 31 = 2945, and the draw.
            comes("a draw", y -> {
                y.tick(1, 1);
                y.tick(8, 3);
                return y.leaf(6, which);
            }, "" + 7919 * (2945 + draw) % 1000);
        }
        comes("the time", y -> {
            y.tick(1, 1);
            y.tick(8, 3);
            return y.leaf(4, 0);
        }, "8");
        comes("the counter", y -> {
            y.tick(1, 1);
            y.tick(8, 3);
            return y.leaf(5, 0);
        }, "2");

        says("ELSE, of two: the first one, unless that is an error, then the second one, which is run then.");
        comes("no error", y -> Make.orElse(y, y.number(1), y.number(2)), "1");
        comes("an error", y -> Make.orElse(y, Make.error(y), y.number(2)), "2");
        comes("both", y -> Make.orElse(y, Make.error(y), y.leaf(1, 0)), "!8");
        comes("empty", y -> Make.orElse(y, Make.empty(y), y.number(2)), "-");
        comes("a row with an error is none", y -> Make.orElse(y, Make.flawed(y, 2, 1), y.number(2)), "!1 12");
    }

    private static void valuesOfCells() {
        SENTENCES.part("Values of cells");
        says("The value of a cell with a number is that.");
        NoteDocument x = Make.document(5, 2);
        x.set(0, 1, 0, -3);
        due("a number", Make.shown(x, 0, 1, 0), "-3");

        says("The value of a cell with a formula is that of its node; if that is a row of several values, it spills: "
            + "those behind the first one are the values of the cells below it, if there are so many, and none of these "
            + "has a content; otherwise the value is the error 5.");
        x.put(0, 2, 0, Make.upTo(x, 3));
        due("it spills to the last row", Make.all(x, 0, 1), "- / -3 / 1 / 2 / 3");
        x.put(0, 2, 0, Make.upTo(x, 4));
        due("there are not so many", Make.all(x, 0, 1), "- / -3 / !5 / - / -");
        x.put(0, 2, 0, Make.upTo(x, 2));
        x.put(0, 4, 0, Make.upTo(x, 1));
        due("a content behind what it needs", Make.all(x, 0, 1), "- / -3 / 1 / 2 / 1");
        x.put(0, 2, 0, Make.upTo(x, 3));
        due("a content in what it needs", Make.all(x, 0, 1), "- / -3 / !5 / - / 1");
        x.erase(0, 4, 0);
        due("it has none any more", Make.all(x, 0, 1), "- / -3 / 1 / 2 / 3");

        says("A row of one value is that value.");
        x.put(0, 4, 1, Make.upTo(x, 1));
        due("in the last row", Make.shown(x, 0, 4, 1), "1");
        x.put(0, 0, 1, Make.fold(x, 0, Make.spill(x, 4, 1)));
        due("it is no row", Make.shown(x, 0, 0, 1), "!6");

        says("The value of a cell without a content is what spills into it from the next cell above it in its column "
            + "that has a content, if this has a formula; otherwise it is empty.");
        NoteDocument y = Make.document(6, 2);
        due("nothing above", Make.all(y, 0, 1), "- / - / - / - / - / -");
        y.put(0, 0, 0, Make.upTo(y, 3));
        due("from the next one", Make.all(y, 0, 2), "1 - / 2 - / 3 - / - - / - - / - -");
        y.put(0, 2, 0, y.number(7));
        due("blocked; the next one is another one", Make.all(y, 0, 1), "!5 / - / 7 / - / - / -");
        y.put(0, 2, 0, Make.upTo(y, 2));
        due("from that one", Make.all(y, 0, 1), "!5 / - / 1 / 2 / - / -");
        y.set(0, 2, 0, 7);
        due("from a number nothing", Make.all(y, 0, 1), "!5 / - / 7 / - / - / -");

        says("A function, 0 to 3, has a body, a node, or none at first: its value is then the error 8.");
        for (int i = 0; i < 4; i++) {
            int function = i;
            comes("none", z -> Make.call(z, function, z.number(0), z.number(0)), "!8");
            comes("a body", z -> {
                z.define(function, z.number(6));
                return Make.call(z, function, z.number(0), z.number(0));
            }, "6");
        }

        says("The node of a name is run by itself, too, with GIVEN as elsewhere.");
        comes("a name in a body", z -> {
            z.name(0, z.leaf(2, 0));
            z.define(0, Make.orElse(z, z.leaf(1, 0), z.number(77)));
            return Make.call(z, 0, z.number(3), z.number(3));
        }, "77");
        comes("GIVEN behind the name", z -> {
            z.name(0, z.number(50));
            z.define(0, Make.two(z, Make.ADD, z.leaf(1, 0), z.leaf(2, 0)));
            return Make.call(z, 0, z.number(3), z.number(3));
        }, "53");

        says("A note is a row of at most 8 parts: some letters \"a\", or a cell with a format.");
        NoteDocument n = Make.document(1, 1);
        n.note();
        n.set(0, 0, 0, 5);
        for (int i = 1; i <= 8; i++) {
            due("parts", i % 2 == 0 ? n.show(0, 0, 0, 0, 0) : n.say(0, i), i);
        }
        due("in their order", Make.text(n, 0), "a5aaa5aaaaa5aaaaaaa5");
        CHECKS.thrown("at most 8", Checks.STATE, () -> n.say(0, 1));

        says("A number is shown by the format 0 as its digits, with \"-\" ahead if it is below 0; by the format 1 with "
            + "\",\" between each three digits, from the last ones on; by the format 2 as 0, with spaces ahead, if it has "
            + "fewer than 6 characters, so that it has 6; an error as \"!\" and its kind; a row by its first value; empty "
            + "as nothing.");
        String[][] wants = {{"-12345", "7", "!1", "9", ""}, {"-12,345", "7", "!1", "9", ""},
            {"-12345", "     7", "!1", "     9", ""}};
        for (int format = 0; format < 3; format++) {
            NoteDocument z = Make.document(5, 5);
            z.set(0, 0, 0, -12345);
            z.set(0, 0, 1, 7);
            z.put(0, 0, 2, Make.error(z));
            z.put(0, 0, 3, Make.two(z, Make.SUBTRACT, z.number(10), Make.upTo(z, 2)));
            z.note();
            StringBuilder want = new StringBuilder();
            for (int i = 0; i < 5; i++) {
                z.show(0, 0, 0, i, format);
                want.append(wants[format][i]);
                due("format " + format, Make.text(z, 0), want.toString());
            }
        }
    }

    public static void main(String[] args) throws IOException {
        whole();
        terms();
        grids();
        values();
        nodes();
        valuesOfCells();
        SENTENCES.checkSpoken(List.of("What it is", "Terms", "Grids", "Values", "Nodes", "Values of cells"));
        CHECKS.end();
    }
}
