import java.io.IOException;
import java.nio.file.Files;
import java.nio.file.Path;
import java.util.List;

/** The document's terms, sentence by sentence, from what is read to undo. */
public final class RunSentencesTest {
    private static final Checks CHECKS = new Checks();
    private static final Sentences SENTENCES = new Sentences(CHECKS);
    private static final String READ = "What is read, and when formulas are run";
    private static final String GO_ALONG = "Inserts, removals, moves, sorts";

    private static void says(String sentence) {
        SENTENCES.says(sentence);
    }

    private static void due(String what, Object got, Object want) {
        CHECKS.due(what, got, want);
    }

    private static void due(String what, long got, long want) {
        CHECKS.due(what, got, want);
    }

    /** Something done to a document of 10 rows and 5 columns with a formula in the cell (0, 4). */
    private interface Change {
        void in(NoteDocument x);
    }

    /** How many runs of cells' formulas, and of bodies, the formula's cell needs behind a change. */
    private static void needs(String what, Make.Formula formula, Change change, int runs, int calls) {
        NoteDocument x = Make.with(formula);
        x.value(0, 0, 4);
        int runsBefore = x.runs();
        int callsBefore = x.calls();
        change.in(x);
        x.value(0, 0, 4);
        due("runs for " + what, x.runs() - runsBefore, runs);
        due("calls for " + what, x.calls() - callsBefore, calls);
    }

    private static void cellsAreRead() {
        says("The run of a cell's formula, of a name's node, of a function's body for what it is called with, or of a "
            + "note, reads things: to read a cell, the contents of it, and, if it has none, of the cells above it, one by "
            + "one, up to the first one that has a content; and, if that has a formula, the value of that cell, or, if it "
            + "is held, what is held (which spills nowhere); values of names and functions; notes; the clock, the counter "
            + "and draws.");
        Make.Formula fifth = y -> {
            y.set(0, 3, 0, 1);
            return Make.cell(y, 5, 0);
        };
        needs("a content", fifth, y -> y.set(0, 5, 0, 1), 1, 0);
        needs("a content above", fifth, y -> y.set(0, 4, 0, 1), 1, 0);
        needs("the first one that has a content", fifth, y -> y.set(0, 3, 0, 2), 1, 0);
        needs("the first one that has a content, taken away", fifth, y -> y.erase(0, 3, 0), 1, 0);
        needs("one above that", fifth, y -> y.set(0, 2, 0, 1), 0, 0);
        needs("one below", fifth, y -> y.set(0, 6, 0, 1), 0, 0);
        needs("one beside", fifth, y -> y.set(0, 5, 1, 1), 0, 0);
        needs("none", fifth, y -> y.grid(10, 5), 0, 0);
        Make.Formula below = y -> {
            y.name(0, Make.upTo(y, 3));
            y.put(0, 3, 0, y.leaf(1, 0));
            return Make.cell(y, 5, 0);
        };
        needs("the value of what spills into it", below, y -> y.name(0, Make.upTo(y, 2)), 2, 0);
        needs("the formula of it", below, y -> y.put(0, 3, 0, y.number(1)), 2, 0);
        needs("that it is held, itself not", below, y -> y.hold(0, 3, 0, 1), 1, 0);
        needs("what is between", below, y -> y.set(0, 4, 0, 9), 1, 0);
        needs("what is above", below, y -> y.set(0, 2, 0, 9), 0, 0);
        Make.Formula held = y -> {
            y.put(0, 3, 0, Make.upTo(y, 3));
            y.hold(0, 3, 0, 7);
            return Make.two(y, Make.ADD, Make.cell(y, 3, 0), Make.cell(y, 4, 0));
        };
        due("what is held spills nowhere", Make.of(held), "7");
        needs("another number held", held, y -> {
            y.hold(0, 3, 0, 0);
            y.hold(0, 3, 0, 8);
        }, 1, 0);
        needs("held no more", held, y -> y.hold(0, 3, 0, 0), 2, 0);
        needs("a round that leaves it", held, y -> y.rounds(1), 1, 0);
        othersAreRead();
    }

    private static void othersAreRead() {
        Make.Formula name = y -> {
            y.name(0, y.number(4));
            y.name(1, y.number(4));
            return y.leaf(1, 0);
        };
        needs("a name's value", name, y -> y.name(0, y.number(5)), 1, 0);
        needs("another name's", name, y -> y.name(1, y.number(5)), 0, 0);
        Make.Formula call = y -> {
            y.define(0, y.leaf(2, 0));
            return Make.call(y, 0, y.number(3), y.number(4));
        };
        needs("a function's value", call, y -> y.define(0, y.leaf(2, 1)), 1, 1);
        needs("another function's", call, y -> y.define(1, y.leaf(2, 1)), 0, 0);
        Make.Formula length = y -> {
            y.set(0, 0, 0, 5);
            y.note();
            y.show(0, 0, 0, 0, 0);
            return y.leaf(3, 0);
        };
        needs("a note", length, y -> y.say(0, 1), 1, 0);
        needs("what a note shows", length, y -> y.set(0, 0, 0, 6), 1, 0);
        needs("another note", length, y -> y.say(y.note(), 1), 0, 0);
        needs("the clock", y -> y.leaf(4, 0), y -> y.tick(1, 0), 1, 0);
        needs("the same time", y -> y.leaf(4, 0), y -> y.tick(0, 7), 0, 0);
        needs("the counter", y -> y.leaf(5, 0), y -> y.tick(0, 0), 1, 0);
        needs("a draw", y -> y.leaf(6, 2), y -> y.tick(0, 0), 1, 0);
        // 31 times (31 times 129 plus 1) is 124000.
        needs("the same draw of another seed", y -> y.leaf(6, 2), y -> y.tick(9, 129), 0, 0);
        NoteDocument x = Make.document(3, 2);
        x.note();
        x.name(0, Make.cell(x, 0, 0));
        x.define(0, Make.two(x, Make.ADD, x.leaf(1, 0), x.leaf(2, 0)));
        int five = x.number(5);
        x.put(0, 1, 0, Make.call(x, 0, five, five));
        x.show(0, 0, 1, 0, 0);
        due("a note that shows a cell that calls a function that asks for a name", Make.text(x, 0), "5");
        x.set(0, 0, 0, 37);
        due("of a cell", Make.text(x, 0), "42");
        due("each was run once more", x.runs() * 10 + x.calls(), 22);
    }

    private static void ownReads() {
        says("(For what a name stands is read in the run of the name alone, the body of a function in its own run alone.");
        needs("another node of a name, the same value", y -> {
            y.name(0, y.number(4));
            return y.leaf(1, 0);
        }, y -> y.name(0, Make.two(y, Make.ADD, y.number(2), y.number(2))), 0, 0);
        needs("none in place of what is the error 8", y -> {
            y.name(0, y.leaf(2, 0));
            return y.leaf(1, 0);
        }, y -> y.name(0, -1), 0, 0);
        needs("another body, the same value", y -> {
            y.define(0, y.number(4));
            return Make.call(y, 0, y.number(1), y.number(1));
        }, y -> y.define(0, Make.two(y, Make.ADD, y.number(2), y.number(2))), 0, 1);
        needs("the same body", y -> {
            y.define(0, y.number(4));
            return Make.call(y, 0, y.number(1), y.number(1));
        }, y -> y.define(0, 0), 0, 0);

        says("A cell with a formula whose value spills reads also the contents of the cells below it, from the top on, as "
            + "many as it needs, up to the first one that has a content.)");
        Make.Formula three = y -> Make.upTo(y, 3);
        needs("below what it needs", three, y -> y.set(0, 3, 4, 1), 0, 0);
        needs("what it needs last", three, y -> y.set(0, 2, 4, 1), 1, 0);
        needs("what it needs first", three, y -> y.put(0, 1, 4, y.number(1)), 1, 0);
        Make.Formula blocked = y -> {
            y.set(0, 1, 4, 1);
            return Make.upTo(y, 3);
        };
        needs("behind the first one that has a content", blocked, y -> y.set(0, 2, 4, 1), 0, 0);
        needs("another content there", blocked, y -> y.set(0, 1, 4, 2), 1, 0);
        needs("the same content there", blocked, y -> y.set(0, 1, 4, 1), 0, 0);
        needs("a row of one value needs none", y -> Make.upTo(y, 1), y -> y.set(0, 1, 4, 1), 0, 0);
        needs("one too long for its grid", y -> Make.upTo(y, 11), y -> y.set(0, 9, 4, 1), 1, 0);
    }

    private static void kept() {
        says("What was found in a run is kept, with what it read, in the order in which it read it first.");
        Make.Formula ordered = y -> {
            y.set(0, 0, 0, 1);
            y.set(0, 0, 1, 1);
            y.put(0, 1, 0, Make.cell(y, 0, 0));
            y.put(0, 1, 1, Make.cell(y, 0, 1));
            int first = Make.cell(y, 1, 0);
            int second = Make.cell(y, 1, 1);
            // It reads the first cell, then the second one, then the first one once more.
            return y.when(first, Make.two(y, Make.ADD, second, first), y.number(0));
        };
        Change both = y -> {
            y.set(0, 0, 0, 0);
            y.set(0, 0, 1, 2);
        };
        needs("the first one, and none that is not needed then", ordered, both, 2, 0);
        needs("the second one", ordered, y -> y.set(0, 0, 1, 2), 2, 0);
        needs("both", ordered, y -> {
            y.set(0, 0, 0, 2);
            y.set(0, 0, 1, 2);
        }, 3, 0);

        says("When it is asked for again, what it read is gone through in this order, up to the first thing that has "
            + "changed, values being asked for likewise; if something has changed since it was last asked for, it is run "
            + "anew, otherwise it stays without a run.");
        Make.Formula chain = y -> {
            y.set(0, 0, 0, 7);
            y.put(0, 1, 0, Make.two(y, Make.REST, Make.cell(y, 0, 0), y.number(5)));
            y.put(0, 2, 0, Make.cell(y, 1, 0));
            return Make.cell(y, 2, 0);
        };
        needs("nothing", chain, y -> y.value(0, 1, 0), 0, 0);
        needs("one of which the value stays", chain, y -> y.set(0, 0, 0, 12), 1, 0);
        needs("all of them", chain, y -> y.set(0, 0, 0, 13), 3, 0);
        needs("what was asked for elsewhere ahead", chain, y -> {
            y.set(0, 0, 0, 13);
            y.value(0, 1, 0);
            due("two stand behind", y.runs(), 4);
        }, 3, 0);
        needs("one that changed, and changed again", chain, y -> {
            y.set(0, 0, 0, 13);
            y.value(0, 2, 0);
            y.set(0, 0, 0, 7);
        }, 4, 0);

        says("What was found for a formula is forgotten when another content takes its place.");
        Make.Formula plain = y -> y.number(4);
        needs("a number between", plain, y -> {
            y.set(0, 0, 4, 1);
            y.put(0, 0, 4, 0);
        }, 1, 0);
        needs("nothing between", plain, y -> {
            y.erase(0, 0, 4);
            y.put(0, 0, 4, 0);
        }, 1, 0);
        needs("another formula of the same value between", plain, y -> {
            y.put(0, 0, 4, y.number(4));
            y.put(0, 0, 4, 0);
        }, 1, 0);
        needs("the same formula", plain, y -> y.put(0, 0, 4, 0), 0, 0);
        NoteDocument x = Make.with(plain);
        x.calculate();
        x.setWay(2);
        x.put(0, 0, 4, x.number(5));
        due("by hand, too", Make.shown(x, 0, 0, 4), "-");
    }

    private static void changes() {
        says("A value has changed only if it is another one than before, a content only if it is another number or "
            + "another node, or is held where it was not, or the other way round; an error is the same one if the kind "
            + "and the cells that it came through are.");
        Make.Formula reader = y -> {
            y.put(0, 0, 0, y.number(4));
            return Make.cell(y, 0, 0);
        };
        needs("the same node", reader, y -> y.put(0, 0, 0, 0), 0, 0);
        needs("another node of the same value", reader, y -> y.put(0, 0, 0, y.number(4)), 2, 0);
        needs("a number of the same value", reader, y -> y.set(0, 0, 0, 4), 1, 0);
        needs("held with the same value", reader, y -> y.hold(0, 0, 0, 4), 1, 0);
        needs("held and no more", reader, y -> {
            y.hold(0, 0, 0, 9);
            y.hold(0, 0, 0, 9);
        }, 0, 0);
        needs("held no more", y -> {
            int node = reader.in(y);
            y.hold(0, 0, 0, 4);
            return node;
        }, y -> y.hold(0, 0, 0, 0), 2, 0);
        Make.Formula number = y -> {
            y.set(0, 0, 0, 4);
            return Make.cell(y, 0, 0);
        };
        needs("the same number", number, y -> y.set(0, 0, 0, 4), 0, 0);
        needs("another number", number, y -> y.set(0, 0, 0, 5), 1, 0);
        Make.Formula row = y -> {
            y.name(0, Make.upTo(y, 3));
            y.put(0, 0, 0, y.leaf(1, 0));
            return Make.fold(y, Make.FOLD_LEAST, Make.spill(y, 0, 0));
        };
        needs("the same row of another node", row, y -> y.name(0, Make.list(y, 2, Make.upTo(y, 3))), 0, 0);
        needs("a row of another length", row, y -> y.name(0, Make.upTo(y, 4)), 2, 0);
        needs("a row of another last value", row, y -> y.name(0, Make.two(y, 5, Make.upTo(y, 3), y.number(2))), 2, 0);
        Make.Formula error = y -> {
            y.put(0, 1, 0, Make.error(y));
            y.put(0, 2, 0, Make.error(y));
            y.put(0, 3, 0, y.leaf(1, 3));
            y.name(0, Make.cell(y, 1, 0));
            y.put(0, 0, 0, y.leaf(1, 0));
            return Make.cell(y, 0, 0);
        };
        needs("the same kind through the same cells", error,
            y -> y.name(0, Make.two(y, Make.ADD, Make.cell(y, 1, 0), y.number(2))), 0, 0);
        needs("the same kind through another cell", error, y -> y.name(0, Make.cell(y, 2, 0)), 3, 0);
        needs("another kind through as many", error, y -> y.name(0, Make.cell(y, 3, 0)), 3, 0);
        needs("the same kind through fewer", error, y -> y.name(0, Make.error(y)), 2, 0);
    }

    private static void circles() {
        says("If what is run, or gone through, needs itself, be it by way of others, that is a circle: all of the cells, "
            + "names, functions and notes by way of which it does so have the error 4 as their value, which arose in each "
            + "of them; a note in a circle is \"!4\", of 2 characters.");
        NoteDocument x = Make.document(8, 3);
        x.note();
        x.name(0, Make.cell(x, 1, 0));
        x.define(0, x.leaf(3, 0));
        int zero = x.number(0);
        // The cell asks for a name, that for a cell, that for a function, that for a note, which shows the first one.
        x.put(0, 0, 0, x.leaf(1, 0));
        x.put(0, 1, 0, Make.call(x, 0, zero, zero));
        x.show(0, 0, 0, 0, 0);
        x.say(0, 5);
        due("the cells", Make.all(x, 0, 1), "!4 / !4 / - / - / - / - / - / -");
        for (int row = 0; row < 2; row++) {
            due("arose in each", x.through(0, row, 0), 1);
            due("arose in each", x.cause(0, row, 0), 10 * row);
        }
        due("the note", Make.text(x, 0), "!4");
        due("of 2 characters", x.length(0), 2);
        x.put(0, 0, 1, x.leaf(1, 0));
        x.put(0, 1, 1, Make.call(x, 0, zero, zero));
        x.put(0, 2, 1, x.leaf(3, 0));
        x.put(0, 3, 1, Make.cell(x, 0, 0));
        due("who reads them", Make.all(x, 0, 2), "!4 !4 / !4 !4 / - 2 / - !4 / - - / - - / - - / - -");
        due("the name's has come through no cell", x.through(0, 0, 1), 1);
        due("the function's has come through no cell", x.cause(0, 1, 1), 11);
        due("the cell's through that", x.through(0, 3, 1), 2);
        due("the cell's through that", x.cause(0, 3, 1), 0);
        selves();

        says("These are asked for anew as soon as anything was changed.");
        x.set(0, 7, 2, 1);
        due("something else", Make.shown(x, 0, 0, 0), "!4");
        x.define(0, x.number(6));
        due("what closed it", Make.all(x, 0, 2), "6 6 / 6 6 / - 6 / - 6 / - - / - - / - - / - -");
        due("the note", Make.text(x, 0), "6aaaaa");
        x.undo();
        due("undone", Make.shown(x, 0, 0, 0), "!4");
        x.tick(3, 3);
        due("asked for anew, with the same answer", Make.text(x, 0), "!4");

        says("(In a circle nothing counts as run.)");
        NoteDocument y = Make.document(4, 2);
        int one = y.number(1);
        int self = Make.call(y, 0, one, one);
        y.define(0, Make.two(y, Make.ADD, Make.cell(y, 0, 0), Make.cell(y, 1, 0)));
        y.put(0, 0, 0, self);
        y.put(0, 1, 0, Make.call(y, 1, one, one));
        y.define(1, one);
        due("a circle", Make.shown(y, 0, 0, 0), "!4");
        due("the one beside it", y.runs(), 1);
        due("the function beside it", y.calls(), 1);
        due("nor when all is asked for", y.calculate(), 0);
        y.set(0, 3, 1, 5);
        due("nor when they are asked for anew", y.calculate(), 0);
        y.put(0, 2, 0, Make.cell(y, 0, 0));
        due("who reads it is run", y.calculate(), 1);
    }

    private static void selves() {
        NoteDocument x = Make.document(6, 2);
        x.put(0, 0, 0, Make.orElse(x, Make.cell(x, 0, 0), x.number(5)));
        due("itself, though it could do without", Make.shown(x, 0, 0, 0), "!4");
        x.put(0, 0, 0, Make.cell(x, 1, 0));
        due("what it could spill into", Make.shown(x, 0, 0, 0), "!4");
        x.put(0, 0, 0, Make.fold(x, 0, x.range(0, 0, 0, 1, 1)));
        due("a range with itself", Make.shown(x, 0, 0, 0), "!4");
        x.name(0, x.leaf(1, 0));
        x.put(0, 0, 0, x.leaf(1, 0));
        due("a name that stands for itself", Make.shown(x, 0, 0, 0), "!4");
        due("the cell is in no circle", x.runs(), 1);
        int first = x.leaf(2, 0);
        int one = x.number(1);
        int less = Make.two(x, Make.SUBTRACT, first, one);
        x.define(0, x.when(first, Make.two(x, Make.ADD, Make.call(x, 0, less, one), first), x.number(0)));
        x.put(0, 0, 0, Make.call(x, 0, x.number(6), one));
        due("a function for other things is no circle", Make.shown(x, 0, 0, 0), "21");
        due("each is run once", x.calls(), 7);
        x.put(0, 0, 0, Make.call(x, 0, x.number(7), one));
        due("with memory", Make.shown(x, 0, 0, 0) + " " + x.calls(), "28 8");
        x.define(0, Make.call(x, 0, first, one));
        due("a function that needs itself", Make.shown(x, 0, 0, 0), "!4");
        due("is not run", x.calls(), 8);
    }

    private static void ways() {
        says("There are three ways: 0, as at first, by need: a value is asked for when it is read. 1 by push: as 0, but "
            + "behind each call that is undoable all cells with formulas are asked for, by their places, then all notes. "
            + "2 by hand: what is read is what was found the last time, whatever has changed, empty if nothing was, and a "
            + "note without characters likewise; only calculate() asks, for all as just told, and rounds().");
        NoteDocument x = Make.document(3, 2);
        x.note();
        x.set(0, 0, 0, 1);
        x.put(0, 1, 0, Make.cell(x, 0, 0));
        x.show(0, 0, 1, 0, 0);
        due("by need nothing is run yet", x.runs(), 0);
        due("by need it is run when it is read", x.length(0) * 10 + x.runs(), 11);
        x.setWay(1);
        x.set(0, 0, 0, 22);
        due("by push it was run", x.runs(), 2);
        x.setWay(2);
        due("and so was the note", Make.text(x, 0), "22");
        x.set(0, 0, 0, 333);
        due("by hand not", Make.all(x, 0, 1) + " " + Make.text(x, 0), "333 / 22 / - 22");
        x.put(0, 0, 1, Make.upTo(x, 2));
        x.note();
        x.say(1, 3);
        due("empty if nothing was found", Make.all(x, 0, 2), "333 - / 22 - / - -");
        due("of one value", x.spills(0, 0, 1), 1);
        due("without characters", x.length(1), 0);
        CHECKS.thrown("without characters", Checks.INDEX, () -> x.letter(1, 0));
        due("rounds() asks for held cells", x.rounds(1), 0);
        due("there are none", x.runs(), 2);
        x.hold(0, 1, 0, 0);
        due("rounds() asks", x.rounds(2), 1);
        due("for the held cell", x.runs(), 3);
        due("not for others", Make.all(x, 0, 2), "333 - / 333 - / - -");
        due("calculate() asks for all", x.calculate(), 1);
        due("for all cells", Make.all(x, 0, 2), "333 1 / 333 2 / - -");
        due("for all notes", Make.text(x, 0) + Make.text(x, 1), "333aaa");
        x.setWay(0);
        x.set(0, 0, 0, 4444);
        x.hold(0, 1, 0, 0);
        due("by need again", Make.text(x, 0), "4444");
    }

    private static void held() {
        SENTENCES.part("Held cells and rounds");
        says("A cell with a formula can be held, with a first number: who reads it gets what is held.");
        NoteDocument x = Make.document(5, 2);
        x.note();
        x.put(0, 0, 0, Make.two(x, Make.ADD, Make.cell(x, 0, 0), x.number(1)));
        x.put(0, 1, 0, Make.cell(x, 0, 0));
        x.name(0, Make.cell(x, 0, 0));
        x.put(0, 2, 0, x.leaf(1, 0));
        x.show(0, 0, 0, 0, 0);
        due("held", x.hold(0, 0, 0, 10), true);
        due("a cell, a name", Make.all(x, 0, 1), "10 / 10 / 10 / - / -");
        due("a note", Make.text(x, 0), "10");
        CHECKS.thrown("a number can not", Checks.STATE, () -> x.hold(0, 3, 0, 1));

        says("In a round all held cells are asked for, by their places, what they themselves are being found though they "
            + "are held; then what each holds becomes its value, if that is a number or empty (as 0), all at once; "
            + "otherwise (an error, a row) it stays.");
        int runs = x.runs();
        due("its own value", x.rounds(1) * 100 + x.value(0, 0, 0), 111);
        due("it is asked for, others are not", x.runs(), runs + 1);
        x.put(0, 3, 0, Make.cell(x, 0, 0));
        x.hold(0, 3, 0, 50);
        x.put(0, 4, 0, Make.cell(x, 3, 0));
        x.hold(0, 4, 0, 60);
        x.rounds(1);
        due("all at once", Make.all(x, 0, 1), "12 / 12 / 12 / 11 / 50");
        String[] stay = {"3", "0", "7", "7", "7"};
        Make.Formula[] formulas = {y -> y.number(3), Make::empty, Make::error, y -> Make.upTo(y, 2), y -> {
            y.set(0, 1, 4, 5);
            return Make.upTo(y, 2);
        }};
        for (int i = 0; i < formulas.length; i++) {
            NoteDocument y = Make.with(formulas[i]);
            y.hold(0, 0, 4, 7);
            due("a round", y.rounds(5), i < 2 ? 1 : 0);
            due("a number, empty, an error, a row, a blocked one", Make.shown(y, 0, 0, 4), stay[i]);
        }

        says("Also when all is asked for, held cells are so; a caller who reads a held cell gets what is held.");
        NoteDocument y = Make.with(z -> Make.upTo(z, 3));
        y.hold(0, 0, 4, 7);
        due("a caller", Make.shown(y, 0, 0, 4) + Make.shown(y, 0, 1, 4), "7-");
        due("of one value, without an error", y.spills(0, 0, 4) * 10 + y.through(0, 0, 4) + y.cause(0, 0, 4), 9);
        due("a caller asks for nothing", y.runs(), 0);
        due("all asks", y.calculate(), 1);
        due("the caller gets what is held", Make.shown(y, 0, 0, 4), "7");
        y.hold(0, 0, 4, 0);
        due("held no more, without a run", Make.shown(y, 0, 1, 4) + y.runs(), "21");
    }

    /** Three rows of a number, a formula that is the number, and a cell beside; the formula of the second one is held. */
    private static NoteDocument rowed() {
        NoteDocument x = Make.document(3, 3);
        x.note();
        for (int i = 0; i < 3; i++) {
            x.set(0, i, 0, 5 - 2 * i);
            x.put(0, i, 1, Make.cell(x, i, 0));
            x.show(0, 0, i, 0, 0);
        }
        x.hold(0, 1, 1, 33);
        x.overlay(1, 0, 1, 0, 300);
        return x;
    }

    private static void goAlong() {
        SENTENCES.part(GO_ALONG);
        says("A row that is inserted has no contents; what stands at its place and below moves down, and references to "
            + "it.");
        NoteDocument x = rowed();
        int range = Make.fold(x, 0, x.range(0, 0, 0, 1, 0));
        int lower = Make.fold(x, 0, x.range(0, 1, 0, 2, 0));
        x.insert(0, 1);
        due("contents", Make.all(x, 0, 3), "5 5 - / - - - / 3 33 - / 1 1 -");
        due("a note", Make.text(x, 0), "531");
        due("a scenario", x.valueIn(1, 0, 2, 0), 300);
        due("none at its place", x.kindIn(1, 0, 1, 0), 0);
        x.set(0, 1, 0, 100);
        x.put(0, 0, 2, range);
        x.put(0, 1, 2, lower);
        due("a range about it has it, one below has not", x.value(0, 0, 2) * 1000 + x.value(0, 1, 2), 108004);
        x.set(0, 2, 0, 4);
        x.set(0, 3, 0, 2);
        due("references lead where it stands", Make.all(x, 0, 2), "5 5 / 100 - / 4 33 / 2 2");

        says("A row that is removed takes its contents along; references to its cells are torn, those below move up; a "
            + "range loses it, and is torn if nothing is left of it.");
        NoteDocument y = rowed();
        int wide = Make.fold(y, 0, y.range(0, 0, 0, 2, 0));
        int upper = Make.fold(y, 0, y.range(0, 0, 0, 1, 0));
        y.range(0, 1, 0, 1, 2);
        int held = y.cell(0, 1, 1, true);
        due("torn: the row's own CELL, a SPILL, a RANGE", y.remove(0, 1), 3);
        due("contents", Make.all(y, 0, 3), "5 5 - / 1 1 -");
        due("a note shows a torn cell", Make.text(y, 0), "5!31");
        due("a scenario drops it", y.drop(1), 0);
        y.put(0, 0, 2, wide);
        y.put(0, 1, 2, upper);
        due("ranges", y.value(0, 0, 2) * 10 + y.value(0, 1, 2), 65);
        y.put(0, 1, 2, held);
        due("torn", Make.shown(y, 0, 1, 2), "!3");
        due("those below move up", y.remove(0, 0) > 0, true);
        due("they lead there", Make.all(y, 0, 2), "1 1");
        y.insert(0, 0);
        y.set(0, 1, 0, 9);
        due("torn ones are no more led anywhere", y.torn() + " " + Make.all(y, 0, 2), "5 - - / 9 9");
        movesAndSorts();
        references();
    }

    private static void movesAndSorts() {
        says("A content that is moved to another cell takes the place of what is there; references to it lead there, those "
            + "to the cell that it is moved to are torn, also if that had no content; ranges stay.");
        NoteDocument x = rowed();
        int range = Make.fold(x, 0, x.range(0, 0, 0, 0, 0));
        int free = x.cell(0, 2, 2, true);
        due("torn: the CELL of the third row", x.move(0, 0, 0, 2, 0), 1);
        due("it takes the place", Make.all(x, 0, 3), "- 5 - / 3 33 - / 5 !3 -");
        due("a note", Make.text(x, 0), "53!3");
        x.put(0, 0, 2, range);
        due("ranges stay", Make.shown(x, 0, 0, 2), "0");
        due("without a content, too", x.move(0, 2, 0, 2, 2), 1);
        x.put(0, 0, 2, free);
        due("torn", Make.shown(x, 0, 0, 2), "!3");
        due("references lead on", Make.shown(x, 0, 0, 1), "5");
        x.move(0, 1, 1, 0, 0);
        due("held with its content", Make.all(x, 0, 2), "33 5 / 3 - / - !3");
        x.move(0, 1, 0, 0, 0);
        due("a number in place of a held formula", Make.all(x, 0, 2), "3 5 / - - / - !3");
        due("a scenario goes along", x.valueIn(1, 0, 0, 0), 300);

        says("When rows are sorted, by the contents in a column that are numbers, rising, rows without such a one there "
            + "behind all, those with the same as they were, their contents and references to their cells go along; "
            + "ranges stay.");
        NoteDocument y = rowed();
        int first = Make.fold(y, 0, y.range(0, 0, 0, 0, 0));
        y.insert(0, 2);
        y.set(0, 2, 2, 8);
        y.insert(0, 4);
        y.put(0, 4, 0, y.number(-50));
        y.set(0, 4, 2, 9);
        y.insert(0, 0);
        y.set(0, 0, 0, 3);
        due("all but none go elsewhere", y.sort(0, 0, 5, 0), 4);
        due("sorted", Make.all(y, 0, 3), "1 1 - / 3 - - / 3 33 - / 5 5 - / - - 8 / -50 - 9");
        due("a note", Make.text(y, 0), "531");
        due("a scenario", y.valueIn(1, 0, 2, 0), 300);
        y.put(0, 5, 1, first);
        due("ranges stay", Make.shown(y, 0, 5, 1), "3");
        due("some rows alone", y.sort(0, 4, 5, 2), 0);
        y.set(0, 3, 0, -7);
        due("some rows alone", y.sort(0, 2, 3, 0), 2);
        due("references go along", Make.all(y, 0, 2), "1 1 / 3 - / -7 -7 / 3 33 / - - / -50 3");
    }

    private static void references() {
        says("References are CELL, SPILL and RANGE nodes, the cells of notes, and those of scenarios, which are dropped "
            + "when torn; held cells stay held with their contents.");
        NoteDocument x = rowed();
        x.put(0, 0, 2, Make.pick(x, 0, x.number(1), x.number(0)));
        x.put(0, 1, 2, Make.fold(x, Make.FOLD_COUNT, x.leaf(0, 0)));
        x.insert(0, 0);
        due("PICK and COLUMN are none", x.kind(0, 1, 2) * 100 + x.value(0, 1, 2) * 10 + x.value(0, 2, 2), 153);
        due("a seek leads nowhere else", x.seek(0, 10, 11, 6, 0, 20), 6);
        x.overlay(0, 0, 3, 0, 9);
        x.remove(0, 3);
        due("dropped when torn", x.drop(0), 0);
        x.overlay(2, 0, 1, 0, 90);
        due("another one stays", x.overlay(2, 0, 2, 0, 91), 2);
        x.move(0, 2, 0, 1, 0);
        due("dropped when torn by a move", x.drop(2), 1);
        due("held still", Make.shown(x, 0, 2, 1), "33");
        x.rounds(1);
        due("and in rounds", Make.shown(x, 0, 2, 1), "3");

        says("A torn node has the error 3; a note shows \"!3\" for a torn cell.");
        NoteDocument y = rowed();
        y.show(0, 0, 2, 1, 2);
        y.put(0, 0, 1, y.cell(0, 2, 0, true));
        y.put(0, 1, 1, y.range(0, 2, 0, 2, 1));
        y.remove(0, 2);
        due("torn", Make.all(y, 0, 2), "5 !3 / 3 !3");
        due("a note, by each format", Make.text(y, 0), "53!3!3");
        due("it arose there", y.cause(0, 1, 1) * 10 + y.through(0, 1, 1), 111);

        says("By such a call all that was found is forgotten.");
        Change[] calls = {z -> z.insert(0, 3), z -> z.insert(1, 0), z -> z.remove(1, 0), z -> z.move(1, 0, 0, 1, 0),
            z -> z.sort(0, 0, 0, 0), z -> z.sort(1, 0, 1, 0)};
        for (Change call : calls) {
            NoteDocument z = rowed();
            z.grid(2, 2);
            z.set(1, 0, 0, 1);
            z.define(0, z.number(4));
            z.put(0, 0, 2, Make.call(z, 0, z.number(0), z.number(0)));
            due("four cells", z.calculate(), 4);
            z.setWay(2);
            call.in(z);
            due("cells by hand", Make.all(z, 0, 3).startsWith("5 - - / 3 33 - / 1 - -"), true);
            due("notes by hand", z.length(0), 0);
            due("all anew", z.calculate() * 10 + z.calls(), 42);
        }
    }

    private static void scenarios() {
        SENTENCES.part("Scenarios");
        says("There are the scenarios 0 to 2; a scenario has other numbers for some cells with numbers.");
        NoteDocument x = rowed();
        x.drop(1);
        for (int i = 0; i < 3; i++) {
            due("a scenario", x.overlay(i, 0, i, 0, 70 + i), 1);
            due("another number", x.valueIn(i, 0, i, 0), 70 + i);
            due("for some cells", x.valueIn(i, 0, (i + 1) % 3, 0), 5 - 2 * ((i + 1) % 3));
        }
        for (int i : new int[] {-1, 3}) {
            CHECKS.thrown("no scenario", Checks.ARGUMENT, () -> x.valueIn(i, 0, 0, 0));
        }
        CHECKS.thrown("a cell with a formula", Checks.STATE, () -> x.overlay(0, 0, 0, 1, 1));

        says("In a scenario all is found from nothing, with these numbers in place of those; what is held is as it is.");
        due("a formula", x.valueIn(0, 0, 0, 1), 70);
        due("what is held", x.valueIn(1, 0, 1, 1), 33);
        x.put(0, 0, 2, Make.list(x, 0, Make.cell(x, 2, 1)));
        due("spilled out of scenarios", Make.shown(x, 0, 0, 2), "1");
        due("too many in one", x.kindIn(2, 0, 0, 2) * 10 + x.valueIn(2, 0, 0, 2), 22);
        x.overlay(2, 0, 2, 0, 3);
        due("spilled in one", x.valueIn(2, 0, 2, 2), 3);

        says("Finding from nothing counts no runs, and keeps nothing.");
        NoteDocument y = Make.with(z -> {
            z.define(0, z.number(6));
            z.set(0, 0, 0, 1);
            return Make.call(z, 0, Make.cell(z, 0, 0), z.number(1));
        });
        due("from nothing", y.valueFromNothing(0, 0, 4), 6);
        due("in a scenario", y.valueIn(0, 0, 0, 4), 6);
        due("a goal", y.seek(0, 0, 4, 6, 0, 3), 0);
        due("counts none", y.runs() + y.calls(), 0);
        y.setWay(2);
        due("keeps nothing", Make.shown(y, 0, 0, 4), "-");
        y.setWay(0);
        due("asked for it is run", y.value(0, 0, 4) * 100 + y.runs() * 10 + y.calls(), 611);
        y.set(0, 0, 0, 2);
        y.valueFromNothing(0, 0, 4);
        due("what was found ahead stays", y.calculate() * 10 + y.calls(), 12);
    }

    private static void undo() {
        SENTENCES.part("Undo");
        says("Each call that is marked so keeps what was ahead of it, the last 5 of these: contents, what was found, names, "
            + "bodies, notes, held numbers, scenarios, the clock, the seed, the counter, and nodes; undo() brings all this "
            + "back; how often formulas were run, and the way, stay; nodes that were made behind that stay as they are (a "
            + "CELL, SPILL or RANGE of which a cell is not there any more has the error 3, but is not torn, and is moved "
            + "by rows that come and go like others).");
        Change[] calls = {x -> x.set(0, 0, 0, 8), x -> x.put(0, 0, 0, 0), x -> x.erase(0, 0, 0), x -> x.name(0, -1),
            x -> x.define(0, -1), x -> x.say(0, 1), x -> x.show(0, 0, 0, 0, 0), x -> x.hold(0, 1, 1, 0),
            x -> x.rounds(2), x -> x.overlay(1, 0, 0, 0, 4), x -> x.drop(1), x -> x.tick(44, 44), x -> x.insert(0, 1),
            x -> x.remove(0, 0), x -> x.move(0, 0, 0, 1, 0), x -> x.sort(0, 0, 2, 0)};
        for (int i = 0; i < calls.length; i++) {
            NoteDocument x = undoable();
            String before = all(x);
            int runs = x.runs();
            calls[i].in(x);
            due("call " + i + " does something", all(x).equals(before), false);
            int more = x.runs();
            x.undo();
            due("call " + i + " is undone", all(x), before);
            due("call " + i + ": what was found is back", x.runs(), more);
            due("call " + i + ": how often stays", x.runs() >= runs, true);
        }
        NoteDocument x = undoable();
        for (int i = 0; i < 7; i++) {
            x.set(0, 0, 0, 60 + i);
        }
        for (int i = 0; i < 5; i++) {
            due("the last 5", x.undo() * 100 + x.value(0, 0, 0), (4 - i) * 100 + 65 - i);
        }
        CHECKS.thrown("no more", Checks.STATE, x::undo);
        x.set(0, 0, 0, 1);
        x.setWay(2);
        x.undo();
        due("the way stays", x.setWay(0), 2);
        nodesBehind();

        says("When a call throws, nothing has changed; of several exceptions it is the first one of the throws clause.");
        Change[] wrong = {y -> y.set(0, 9, 0, Long.MAX_VALUE), y -> y.put(0, 0, 0, 999), y -> y.hold(0, 9, 9, Long.MAX_VALUE),
            y -> y.range(0, 1, 0, 0, 9), y -> y.say(9, 0), y -> y.show(0, 9, 0, 0, 9), y -> y.move(0, 9, 0, 9, 0),
            y -> y.sort(0, 9, 8, 0), y -> y.remove(0, 9), y -> y.insert(0, -1), y -> y.letter(0, 999),
            y -> y.seek(0, 99, 0, 0, 5000, 0)};
        Change[] unfit = {y -> y.set(0, 0, 0, Long.MAX_VALUE), y -> y.number(Long.MIN_VALUE), y -> y.leaf(9, 9),
            y -> y.node(0, 99, 999, 999), y -> y.name(9, 999), y -> y.define(9, 999), y -> y.say(0, 0),
            y -> y.show(0, 0, 0, 0, 9), y -> y.overlay(9, 9, 9, 9, 0), y -> y.valueIn(9, 9, 9, 9), y -> y.rounds(0),
            y -> y.hold(0, 0, 0, Long.MAX_VALUE), y -> y.move(0, 2, 2, 2, 2), y -> y.sort(0, 1, 0, 0),
            y -> y.seek(0, 0, 0, 0, 5000, 0), y -> y.tick(-1, 0), y -> y.setWay(9), y -> y.grid(0, 0)};
        Change[] late = {y -> y.hold(0, 0, 0, 0), y -> y.move(0, 2, 2, 0, 0), y -> y.overlay(0, 0, 2, 2, 0),
            y -> y.seek(0, 22, 0, 0, 0, 1)};
        Change[][] all = {wrong, unfit, late};
        Class<?>[] types = {Checks.INDEX, Checks.ARGUMENT, Checks.STATE};
        for (int i = 0; i < 3; i++) {
            for (int j = 0; j < all[i].length; j++) {
                Change change = all[i][j];
                NoteDocument y = undoable();
                NoteDocument z = undoable();
                CHECKS.thrownBy("throws " + i + ", " + j, types[i], () -> change.in(y));
                due("runs and calls", y.runs() * 100 + y.calls(), z.runs() * 100 + z.calls());
                due("nothing has changed", all(y), all(z));
                due("nor what is kept", y.undo(), z.undo());
                due("nor what that brings back", all(y), all(z));
                due("nor how many nodes there are", y.number(0), z.number(0));
            }
        }
    }

    /** A document of all that can be undone; its first node is a number. */
    private static NoteDocument undoable() {
        NoteDocument x = Make.document(3, 3);
        int four = x.number(4);
        x.note();
        for (int i = 0; i < 3; i++) {
            x.set(0, i, 0, 3 - i);
        }
        x.name(0, Make.cell(x, 0, 0));
        x.define(0, x.leaf(2, 1));
        x.tick(9, 5);
        int sum = Make.two(x, Make.ADD, x.leaf(1, 0), Make.call(x, 0, four, four));
        x.put(0, 0, 1, sum);
        x.put(0, 1, 1, Make.two(x, Make.ADD, Make.cell(x, 1, 1), four));
        x.hold(0, 1, 1, 20);
        x.put(0, 2, 1, Make.two(x, Make.ADD, Make.two(x, Make.ADD, x.leaf(4, 0), x.leaf(5, 0)), x.leaf(6, 1)));
        x.put(0, 0, 2, x.leaf(3, 0));
        x.overlay(1, 0, 1, 0, 50);
        x.show(0, 0, 1, 0, 1);
        x.say(0, 2);
        x.calculate();
        return x;
    }

    private static String all(NoteDocument x) {
        StringBuilder text = new StringBuilder(Make.all(x, 0, 3));
        text.append(" | ").append(Make.text(x, 0)).append(" | ").append(x.torn()).append(" |");
        for (int row = 0; row < x.rows(0); row++) {
            text.append(' ').append(x.valueIn(1, 0, row, 0));
        }
        return text.toString();
    }

    private static void nodesBehind() {
        NoteDocument x = Make.document(4, 2);
        x.insert(0, 4);
        int one = x.number(1);
        int cell = x.cell(0, 4, 0, false);
        int spill = x.cell(0, 4, 0, true);
        int range = Make.fold(x, 0, x.range(0, 3, 0, 4, 0));
        x.undo();
        due("a number is as it is", x.number(1), range + 1);
        x.put(0, 0, 1, one);
        due("a number is as it is", Make.shown(x, 0, 0, 1), "1");
        for (int node : new int[] {cell, spill, range}) {
            x.put(0, 0, 1, node);
            due("the error 3", Make.shown(x, 0, 0, 1), "!3");
        }
        due("not torn", x.torn(), 0);
        x.insert(0, 4);
        due("moved by a row that comes, as what is at its place", Make.shown(x, 0, 0, 1), "!3");
        x.set(0, 4, 0, 7);
        due("the last row is another one", Make.shown(x, 0, 0, 1), "!3");
        x.remove(0, 3);
        due("moved by a row that goes", Make.shown(x, 0, 0, 1), "!3");
        NoteDocument y = Make.document(4, 2);
        y.set(0, 3, 0, 7);
        y.remove(0, 0);
        y.undo();
        y.insert(0, 0);
        int behind = y.cell(0, 4, 0, false);
        y.undo();
        y.put(0, 0, 1, behind);
        due("not there", Make.shown(y, 0, 0, 1), "!3");
        y.remove(0, 3);
        due("a row above goes: still behind the last one", y.torn() + Make.shown(y, 0, 0, 1), "0!3");
    }

    private static void face() throws IOException {
        String text = Files.readString(Path.of("src/main/java/NoteDocument.java"));
        String[] groups = {"grids and contents", "nodes", "names, functions, notes", "clock, way", "what is read",
            "inserts, removals, moves, sorts", "scenarios, goals, undo"};
        String[] calls = {"grid rows set put erase hold rounds", "number cell range leaf node when torn",
            "name define note say show", "tick setWay calculate",
            "kind value spills through cause kindFromNothing valueFromNothing length letter runs calls",
            "insert remove move sort", "overlay drop kindIn valueIn seek undo"};
        int at = 0;
        for (int i = 0; i < groups.length; i++) {
            says("Ahead of the calls `" + calls[i].replace(" ", "`, `") + "` the interface says: ---- " + groups[i] + ".");
            int heading = text.indexOf("    // ---- " + groups[i] + "\n");
            CHECKS.due("the heading", heading > at);
            at = heading;
            for (String call : calls[i].split(" ")) {
                int next = text.indexOf("    public ", at + 1);
                int end = text.indexOf("(", next);
                CHECKS.due("the call " + call, text.substring(next, end).endsWith(" " + call));
                at = end;
            }
        }
    }

    public static void main(String[] args) throws IOException {
        SENTENCES.part(READ);
        cellsAreRead();
        ownReads();
        kept();
        changes();
        circles();
        ways();
        held();
        goAlong();
        scenarios();
        undo();
        face();
        SENTENCES.checkSpoken(List.of(READ, "Held cells and rounds", GO_ALONG, "Scenarios", "Undo"));
        CHECKS.end();
    }
}
