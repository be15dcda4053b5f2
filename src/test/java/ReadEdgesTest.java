/** The edges of promises 24 to 30, 33 and 34: what is read, what is run, errors, circles. */
public final class ReadEdgesTest {
    private static final Checks CHECKS = new Checks();
    private static final long MOST = Checks.MOST;

    private static void kinds() {
        CHECKS.promise("Promises 24 and 25");
        NoteDocument x = Make.document(5, 3);
        x.set(0, 0, 0, 0);
        CHECKS.due("the number 0", Make.shown(x, 0, 0, 0), "0");
        CHECKS.due("empty", Make.shown(x, 0, 4, 2), "-");
        CHECKS.due("empty is 0", x.value(0, 4, 2), 0);
        x.put(0, 1, 0, Make.cell(x, 4, 2));
        CHECKS.due("a formula that is empty", Make.shown(x, 0, 1, 0), "-");
        x.put(0, 2, 0, Make.flawed(x, 3, 1));
        CHECKS.due("of a row its first value", Make.shown(x, 0, 2, 0), "!1");
        CHECKS.due("what it spills", Make.shown(x, 0, 4, 0), "6");
        Make.Formula[] errors = {Make::error, y -> Make.two(y, Make.ADD, y.number(MOST), y.number(1)),
            y -> Make.pick(y, 0, y.number(99), y.number(0)), y -> Make.cell(y, 0, 4), y -> Make.upTo(y, 20),
            y -> Make.fold(y, 0, y.number(1)), y -> Make.two(y, Make.ADD, Make.upTo(y, 2), Make.upTo(y, 3)),
            y -> y.leaf(1, 0)};
        for (int i = 0; i < 8; i++) {
            NoteDocument y = Make.with(errors[i]);
            CHECKS.due("kind of an error", y.kind(0, 0, 4), 2);
            CHECKS.due("each kind of error", y.value(0, 0, 4), i + 1);
            CHECKS.due("from nothing", y.kindFromNothing(0, 0, 4), 2);
            CHECKS.due("from nothing", y.valueFromNothing(0, 0, 4), i + 1);
            CHECKS.due("of one value", y.spills(0, 0, 4), 1);
            CHECKS.due("arose here", y.through(0, 0, 4), 1);
            CHECKS.due("arose here", y.cause(0, 0, 4), 4);
            CHECKS.due("below it nothing", Make.shown(y, 0, 1, 4), "-");
        }
    }

    private static void spills() {
        CHECKS.promise("Promise 26, what spills");
        NoteDocument x = Make.document(4, 2);
        x.put(0, 0, 0, Make.upTo(x, 4));
        CHECKS.due("from the first row to the last one", Make.all(x, 0, 1), "1 / 2 / 3 / 4");
        CHECKS.due("four", x.spills(0, 0, 0), 4);
        CHECKS.due("what is spilled into", x.spills(0, 3, 0), 1);
        x.put(0, 0, 0, Make.upTo(x, 5));
        CHECKS.due("one too many", Make.all(x, 0, 1), "!5 / - / - / -");
        CHECKS.due("blocked", x.spills(0, 0, 0), 1);
        x.insert(0, 4);
        CHECKS.due("a row comes", Make.all(x, 0, 1), "1 / 2 / 3 / 4 / 5");
        x.undo();
        x.put(0, 0, 0, Make.upTo(x, 1));
        CHECKS.due("a row of one value is that value", x.spills(0, 0, 0), 1);
        x.erase(0, 0, 0);
        x.put(0, 3, 0, Make.upTo(x, 1));
        CHECKS.due("one in the last row", Make.all(x, 0, 1), "- / - / - / 1");
        x.put(0, 3, 0, Make.upTo(x, 2));
        CHECKS.due("two in the last row", Make.all(x, 0, 1), "- / - / - / !5");
        x.put(0, 1, 0, Make.upTo(x, 2));
        CHECKS.due("up to a formula", Make.all(x, 0, 1), "- / 1 / 2 / !5");
        x.put(0, 1, 0, Make.upTo(x, 3));
        CHECKS.due("blocked by a formula, what it is counts for nothing", Make.all(x, 0, 1), "- / !5 / - / !5");
        NoteDocument y = Make.document(10, 5);
        y.put(0, 0, 0, Make.two(y, Make.ADD, y.range(0, 0, 1, 9, 1), y.number(1)));
        CHECKS.due("ten in ten", y.spills(0, 0, 0), 10);
        y.put(0, 0, 0, Make.two(y, Make.ADD, y.range(0, 0, 1, 4, 3), y.number(1)));
        CHECKS.due("fifteen", Make.shown(y, 0, 0, 0), "!5");
        blocks();
    }

    private static void blocks() {
        Make.Formula[] blocks = {z -> {
            z.set(0, 2, 0, 0);
            return 2;
        }, z -> {
            z.put(0, 2, 0, Make.cell(z, 4, 1));
            return 2;
        }, z -> {
            z.put(0, 2, 0, z.number(1));
            z.hold(0, 2, 0, 5);
            return 2;
        }};
        for (Make.Formula block : blocks) {
            NoteDocument x = Make.document(5, 2);
            x.put(0, 0, 0, Make.upTo(x, 3));
            x.put(0, 1, 1, Make.cell(x, 1, 0));
            CHECKS.due("not blocked", Make.shown(x, 0, 1, 1), "2");
            int row = block.in(x);
            CHECKS.due("blocked", Make.shown(x, 0, 0, 0), "!5");
            CHECKS.due("what it spilled is gone", Make.shown(x, 0, 1, 0), "-");
            CHECKS.due("who read it", Make.shown(x, 0, 1, 1), "-");
            x.erase(0, row, 0);
            CHECKS.due("unblocked", Make.all(x, 0, 1), "1 / 2 / 3 / - / -");
            CHECKS.due("who reads it", Make.shown(x, 0, 1, 1), "2");
            x.put(0, 0, 0, Make.upTo(x, 2));
            block.in(x);
            CHECKS.due("behind what it needs nothing blocks", Make.shown(x, 0, 1, 0), "2");
        }
        NoteDocument x = Make.document(6, 1);
        x.put(0, 0, 0, Make.upTo(x, 3));
        x.put(0, 1, 0, Make.upTo(x, 3));
        x.put(0, 2, 0, Make.upTo(x, 3));
        CHECKS.due("the blocked ones' rows are not there", Make.all(x, 0, 1), "!5 / !5 / 1 / 2 / 3 / -");
        x.erase(0, 2, 0);
        CHECKS.due("the next one", Make.all(x, 0, 1), "!5 / 1 / 2 / 3 / - / -");
        x.set(0, 1, 0, 4);
        CHECKS.due("below a number nothing", Make.all(x, 0, 1), "!5 / 4 / - / - / - / -");
        x.put(0, 0, 0, Make.upTo(x, 1));
        CHECKS.due("a row of one value is not blocked", Make.all(x, 0, 1), "1 / 4 / - / - / - / -");
    }

    private static void errorsTravel() {
        CHECKS.promise("Promises 27 and 28");
        NoteDocument x = new NoteDocument();
        x.grid(10, 5);
        x.grid(10, 5);
        x.grid(10, 5);
        x.put(2, 9, 4, Make.error(x));
        CHECKS.due("the last cell", x.cause(2, 9, 4), 294);
        for (int i = 0; i < 100; i++) {
            int from = i == 0 ? x.cell(2, 9, 4, false) : x.cell((i - 1) / 50, (i - 1) % 50 / 5, (i - 1) % 5, false);
            x.put(i / 50, i % 50 / 5, i % 5, from);
        }
        CHECKS.due("through 101 cells", x.through(1, 9, 4), 101);
        CHECKS.due("from the last one", x.cause(1, 9, 4), 294);
        x.put(2, 9, 4, x.leaf(1, 0));
        CHECKS.due("another kind, the same cells", x.value(1, 9, 4), 8);
        CHECKS.due("through 101 cells", x.through(1, 9, 4), 101);
        x.set(0, 4, 4, 5);
        CHECKS.due("none", x.through(1, 9, 4), 0);
        CHECKS.due("none", x.cause(1, 9, 4), -1);
        byWay();
        rowsOfErrors();
    }

    /** What names and functions find has come through no cell until a cell's formula gives it. */
    private static void byWay() {
        NoteDocument x = Make.document(6, 2);
        x.put(0, 5, 0, Make.error(x));
        int broken = Make.cell(x, 5, 0);
        int two = x.number(2);
        x.name(0, Make.error(x));
        x.name(1, x.leaf(1, 0));
        x.name(2, broken);
        x.define(0, x.leaf(1, 2));
        x.put(0, 0, 0, x.leaf(1, 0));
        x.put(0, 1, 0, x.leaf(1, 1));
        x.put(0, 2, 0, x.leaf(1, 2));
        x.put(0, 3, 0, Make.call(x, 0, two, two));
        x.put(0, 4, 0, Make.cell(x, 3, 0));
        int[] through = {1, 1, 2, 2, 3, 1};
        int[] cause = {0, 10, 50, 50, 50, 50};
        for (int i = 0; i < 6; i++) {
            CHECKS.due("through, row " + i, x.through(0, i, 0), through[i]);
            CHECKS.due("cause, row " + i, x.cause(0, i, 0), cause[i]);
        }
        x.put(0, 0, 1, Make.orElse(x, x.leaf(2, 0), broken));
        CHECKS.due("the error that is the value", x.through(0, 0, 1), 2);
        x.put(0, 0, 1, Make.two(x, Make.ADD, x.leaf(2, 0), broken));
        CHECKS.due("the first error", x.cause(0, 0, 1), 1);
        x.put(0, 0, 1, Make.two(x, Make.ADD, broken, x.leaf(2, 0)));
        CHECKS.due("the first error", x.cause(0, 0, 1), 50);
        x.name(3, broken);
        x.put(0, 0, 1, x.leaf(1, 3));
        x.put(0, 1, 1, Make.cell(x, 0, 1));
        CHECKS.due("by way of a name", x.through(0, 1, 1), 3);
        int before = x.runs();
        x.name(3, Make.two(x, Make.DIVIDE, two, x.number(0)));
        CHECKS.due("the same kind through other cells", x.through(0, 1, 1), 2);
        CHECKS.due("is another error", x.runs(), before + 2);
        x.name(3, Make.two(x, Make.REST, two, x.number(0)));
        CHECKS.due("the same kind through the same cells", x.through(0, 1, 1), 2);
        CHECKS.due("is the same", x.runs(), before + 2);
        x.name(3, x.leaf(2, 0));
        CHECKS.due("another kind through the same cells", x.value(0, 1, 1), 8);
        CHECKS.due("is another one", x.runs(), before + 4);
    }

    private static void rowsOfErrors() {
        NoteDocument x = Make.document(6, 3);
        x.put(0, 1, 0, Make.flawed(x, 3, 2));
        CHECKS.due("of a row by its first value", x.through(0, 1, 0), 0);
        CHECKS.due("of a row by its first value", x.cause(0, 1, 0), -1);
        CHECKS.due("what is spilled", x.through(0, 2, 0), 1);
        CHECKS.due("came through the cell with the formula", x.cause(0, 2, 0), 10);
        x.put(0, 0, 1, Make.list(x, 1, Make.spill(x, 1, 0)));
        CHECKS.due("a row read as a row", x.through(0, 1, 1), 2);
        CHECKS.due("a row read as a row", x.cause(0, 1, 1), 10);
        x.put(0, 0, 2, x.range(0, 1, 0, 3, 1));
        CHECKS.due("a range: what was spilled there", x.through(0, 2, 2), 2);
        CHECKS.due("a range: what came through another one", x.through(0, 1, 2), 3);
        CHECKS.due("a range: what came through another one", x.cause(0, 1, 2), 10);
        x.put(0, 3, 2, x.number(1));
        CHECKS.due("blocked is an error of its own", x.through(0, 0, 2), 1);
        CHECKS.due("and another one's no more", x.cause(0, 0, 2), 2);
    }

    private static void fromNothing() {
        CHECKS.promise("Promises 29 and 30");
        NoteDocument x = Make.document(5, 3);
        x.setWay(2);
        int a = Make.cell(x, 0, 0);
        x.set(0, 0, 0, 2);
        x.put(0, 0, 1, Make.two(x, Make.ADD, Make.list(x, 0, a), x.number(0)));
        x.define(0, a);
        int zero = x.number(0);
        x.name(0, Make.call(x, 0, zero, zero));
        x.put(0, 4, 1, x.leaf(1, 0));
        x.put(0, 0, 2, Make.cell(x, 1, 2));
        x.put(0, 1, 2, Make.cell(x, 0, 2));
        CHECKS.due("what is spilled", x.valueFromNothing(0, 1, 1), 2);
        CHECKS.due("what is below", x.kindFromNothing(0, 2, 1), 0);
        CHECKS.due("by a name and a function", x.valueFromNothing(0, 4, 1), 2);
        CHECKS.due("a circle", x.valueFromNothing(0, 1, 2), 4);
        CHECKS.due("a number", x.kindFromNothing(0, 0, 0), 1);
        CHECKS.due("counts no runs", x.runs() + x.calls(), 0);
        CHECKS.due("keeps nothing", x.kind(0, 0, 1), 0);
        x.calculate();
        int runs = x.runs();
        x.set(0, 0, 0, 3);
        CHECKS.due("not what was found", x.valueFromNothing(0, 2, 1), 3);
        CHECKS.due("what was found stays", x.kind(0, 2, 1), 0);
        x.hold(0, 0, 1, 7);
        CHECKS.due("what is held", x.valueFromNothing(0, 0, 1), 7);
        CHECKS.due("spills nowhere", x.kindFromNothing(0, 1, 1), 0);
        CHECKS.due("counts no runs", x.runs(), runs);
        CHECKS.due("is not kept", x.undo(), 4);
    }

    private static void runs() {
        CHECKS.promise("Promise 33");
        NoteDocument x = Make.document(5, 3);
        int a = Make.cell(x, 0, 0);
        x.set(0, 0, 0, 5);
        x.put(0, 1, 0, a);
        CHECKS.due("a put runs nothing", x.runs(), 0);
        x.kind(0, 2, 0);
        CHECKS.due("what is below is asked for by way of it", x.runs(), 1);
        x.kind(0, 0, 0);
        x.spills(0, 1, 0);
        x.through(0, 1, 0);
        x.cause(0, 1, 0);
        x.value(0, 1, 0);
        CHECKS.due("it stays without a run", x.runs(), 1);
        x.set(0, 0, 0, 5);
        x.value(0, 1, 0);
        CHECKS.due("the same number is no change", x.runs(), 1);
        x.erase(0, 0, 0);
        x.set(0, 0, 0, 5);
        x.value(0, 1, 0);
        CHECKS.due("nor one that came back", x.runs(), 1);
        x.put(0, 0, 0, x.number(5));
        x.value(0, 1, 0);
        CHECKS.due("a formula in place of a number is a change", x.runs(), 3);
        x.hold(0, 0, 0, 5);
        x.value(0, 1, 0);
        CHECKS.due("that it is held is a change", x.runs(), 4);
        x.hold(0, 0, 0, 0);
        x.value(0, 1, 0);
        CHECKS.due("that it is held no more, too", x.runs(), 5);
        x.hold(0, 0, 0, 6);
        x.value(0, 1, 0);
        x.hold(0, 0, 0, 6);
        x.hold(0, 0, 0, 7);
        x.value(0, 1, 0);
        CHECKS.due("another number held is a change", x.runs(), 7);
        x.erase(0, 0, 0);
        x.value(0, 1, 0);
        CHECKS.due("nothing in place of something is a change", x.runs(), 8);
        x.put(0, 1, 0, a);
        x.value(0, 1, 0);
        CHECKS.due("the same formula", x.runs(), 8);
        x.set(0, 1, 0, 1);
        x.put(0, 1, 0, a);
        x.value(0, 1, 0);
        CHECKS.due("forgotten when another content took its place", x.runs(), 9);
        contentsAbove();
        inOrder();
    }

    /** To read a cell is to read the contents above it, too, up to the first one. */
    private static void contentsAbove() {
        NoteDocument x = Make.document(5, 2);
        x.put(0, 0, 1, Make.cell(x, 4, 0));
        x.value(0, 0, 1);
        int runs = 1;
        for (int row = 0; row < 5; row++) {
            x.set(0, row, 0, 1);
            x.value(0, 0, 1);
            runs++;
            CHECKS.due("the first content above", x.runs(), runs);
            CHECKS.due("it spills nothing", x.kind(0, 0, 1), row < 4 ? 0 : 1);
            for (int above = 0; above < row; above++) {
                x.set(0, above, 0, 9);
                x.value(0, 0, 1);
            }
            CHECKS.due("what is above that counts for nothing", x.runs(), runs);
        }
        NoteDocument y = Make.document(10, 2);
        y.put(0, 0, 1, Make.cell(y, 9, 0));
        y.value(0, 0, 1);
        y.put(0, 0, 0, Make.upTo(y, 10));
        CHECKS.due("from the first row into the last one", Make.shown(y, 0, 0, 1), "10");
        y.put(0, 1, 1, Make.cell(y, 3, 0));
        y.value(0, 1, 1);
        int before = y.runs();
        y.put(0, 0, 0, Make.two(y, Make.ADD, Make.upTo(y, 10), y.number(0)));
        y.value(0, 1, 1);
        CHECKS.due("another formula is a change, though its value is the same", y.runs(), before + 2);
        before = y.runs();
        y.name(0, y.number(10));
        y.put(0, 0, 0, Make.list(y, 0, y.leaf(1, 0)));
        y.value(0, 1, 1);
        CHECKS.due("both are run", y.runs(), before + 2);
        y.name(0, y.number(9));
        y.value(0, 1, 1);
        CHECKS.due("a row of which another value has changed is another one", y.runs(), before + 4);
        y.name(0, Make.fold(y, 1, Make.upTo(y, 9)));
        y.value(0, 1, 1);
        CHECKS.due("the name's value has not changed", y.runs(), before + 4);
    }

    /** What was read is gone through in its order, and nothing is asked for behind what has changed. */
    private static void inOrder() {
        NoteDocument x = Make.document(5, 3);
        x.set(0, 0, 0, 1);
        x.set(0, 1, 0, 2);
        x.put(0, 0, 1, Make.cell(x, 0, 0));
        x.put(0, 1, 1, Make.cell(x, 1, 0));
        int first = Make.cell(x, 0, 1);
        int second = Make.cell(x, 1, 1);
        x.put(0, 2, 1, x.when(first, second, x.number(0)));
        x.value(0, 2, 1);
        CHECKS.due("three", x.runs(), 3);
        x.set(0, 0, 0, 0);
        x.set(0, 1, 0, 5);
        CHECKS.due("the first one has changed", x.value(0, 2, 1), 0);
        CHECKS.due("the second one is not asked for", x.runs(), 5);
        x.set(0, 0, 0, 3);
        CHECKS.due("now it is", x.value(0, 2, 1), 5);
        CHECKS.due("now it is", x.runs(), 8);
        x.set(0, 1, 0, 6);
        x.value(0, 2, 1);
        CHECKS.due("the first one has not changed", x.runs(), 10);
        x.put(0, 2, 2, Make.two(x, Make.ADD, Make.cell(x, 0, 2), Make.cell(x, 0, 2)));
        x.value(0, 2, 2);
        CHECKS.due("read once", x.runs(), 11);
        x.set(0, 0, 2, 1);
        CHECKS.due("and changed", x.value(0, 2, 2), 2);
        notAskedFor();
    }

    /** A WHEN asks for one of its parts alone, also where what it depends on is not found yet, by whichever cell. */
    private static void notAskedFor() {
        for (int i = 0; i < 15; i++) {
            NoteDocument x = new NoteDocument();
            x.grid(3, 5);
            x.grid(1, 2);
            int one = x.number(1);
            x.put(0, i / 5, i % 5, one);
            x.put(1, 0, 0, one);
            int source = x.cell(0, i / 5, i % 5, false);
            int other = x.cell(1, 0, 0, false);
            x.put(1, 0, 1, x.when(source, x.number(7), other));
            CHECKS.due("the second part", x.value(1, 0, 1), 7);
            CHECKS.due("the third one is not run", x.runs(), 2);
            x.put(1, 0, 1, x.when(Make.two(x, Make.SUBTRACT, source, one), other, x.number(8)));
            CHECKS.due("the third part", x.value(1, 0, 1), 8);
            CHECKS.due("the second one is not run", x.runs(), 3);
            x.put(1, 0, 1, Make.orElse(x, source, other));
            CHECKS.due("the first part", x.value(1, 0, 1), 1);
            CHECKS.due("the second one is not run", x.runs(), 4);
        }
    }

    private static void calls() {
        CHECKS.promise("Promise 34");
        NoteDocument x = Make.document(4, 2);
        x.set(0, 0, 0, 5);
        int a = Make.cell(x, 0, 0);
        int first = x.leaf(2, 0);
        int zero = x.number(0);
        int less = Make.two(x, Make.SUBTRACT, first, x.number(1));
        x.define(0, x.when(first, Make.two(x, Make.ADD, a, Make.call(x, 0, less, zero)), zero));
        x.put(0, 1, 0, Make.call(x, 0, x.number(12), zero));
        CHECKS.due("a body that calls itself", x.value(0, 1, 0), 60);
        CHECKS.due("once for each", x.calls(), 13);
        x.put(0, 2, 0, Make.each(x, 0, Make.upTo(x, 2), zero));
        CHECKS.due("found already", Make.all(x, 0, 1), "5 / 60 / 5 / 10");
        CHECKS.due("found already", x.calls(), 13);
        x.set(0, 0, 0, 6);
        x.value(0, 3, 0);
        CHECKS.due("two of those that read it", x.calls(), 15);
        x.value(0, 1, 0);
        CHECKS.due("ten more", x.calls(), 25);
        x.put(0, 1, 0, Make.call(x, 0, x.number(13), zero));
        x.value(0, 1, 0);
        CHECKS.due("out of range none is run", x.calls(), 25);
        x.define(1, Make.call(x, 1, first, zero));
        x.put(0, 1, 0, Make.call(x, 1, zero, zero));
        CHECKS.due("a body that needs itself", Make.shown(x, 0, 1, 0), "!4");
        CHECKS.due("does not count", x.calls(), 25);
        CHECKS.due("has come through this cell alone", x.through(0, 1, 0), 1);
        x.define(1, -1);
        CHECKS.due("no body", Make.shown(x, 0, 1, 0), "!8");
        CHECKS.due("nothing was run", x.calls(), 25);
        x.insert(0, 0);
        x.value(0, 3, 0);
        CHECKS.due("forgotten and found anew", x.calls(), 28);
    }

    private static void circles() {
        CHECKS.promise("Circles");
        NoteDocument x = Make.document(6, 3);
        x.put(0, 0, 0, Make.cell(x, 0, 0));
        CHECKS.due("a cell that needs itself", Make.shown(x, 0, 0, 0), "!4");
        CHECKS.due("arose here", x.through(0, 0, 0), 1);
        CHECKS.due("no run", x.runs(), 0);
        x.put(0, 0, 0, x.when(x.number(1), x.number(3), Make.cell(x, 0, 0)));
        CHECKS.due("what is not run is not needed", Make.shown(x, 0, 0, 0), "3");
        x.put(0, 0, 0, Make.orElse(x, Make.cell(x, 0, 0), x.number(3)));
        CHECKS.due("ELSE leads out of no circle", Make.shown(x, 0, 0, 0), "!4");
        x.put(0, 1, 0, Make.orElse(x, Make.cell(x, 0, 0), x.number(3)));
        CHECKS.due("but who reads it", Make.shown(x, 0, 1, 0), "3");
        x.put(0, 2, 0, Make.cell(x, 0, 0));
        CHECKS.due("through two", x.through(0, 2, 0), 2);
        CHECKS.due("through two", x.cause(0, 2, 0), 0);
        x.put(0, 3, 0, Make.pick(x, 0, x.number(3), x.number(0)));
        CHECKS.due("by a reference that it makes itself", Make.shown(x, 0, 3, 0), "!4");
        x.put(0, 4, 1, x.range(0, 5, 1, 5, 2));
        CHECKS.due("by a cell that it could spill into", Make.shown(x, 0, 4, 1), "!4");
        x.put(0, 4, 1, x.number(7));
        CHECKS.due("a circle no more", Make.shown(x, 0, 4, 1), "7");
        int runs = x.runs();
        x.put(0, 0, 0, Make.cell(x, 0, 0));
        x.hold(0, 0, 0, 4);
        CHECKS.due("what is held needs nothing", Make.shown(x, 0, 0, 0), "4");
        CHECKS.due("a round", x.rounds(1), 0);
        CHECKS.due("it runs without a circle", x.runs(), runs + 1);
        byNamesAndNotes();
        overlapping();
        againAndAgain();
    }

    private static void byNamesAndNotes() {
        NoteDocument x = Make.document(6, 3);
        x.note();
        int two = x.number(2);
        x.put(0, 0, 0, x.leaf(1, 0));
        x.name(0, Make.call(x, 0, two, two));
        x.define(0, x.leaf(3, 0));
        x.show(0, 0, 0, 0, 1);
        CHECKS.due("a note in the circle", Make.text(x, 0), "!4");
        CHECKS.due("of 2 characters", x.length(0), 2);
        CHECKS.due("the cell", x.cause(0, 0, 0), 0);
        x.put(0, 1, 1, x.leaf(1, 0));
        CHECKS.due("who reads the name", x.through(0, 1, 1), 1);
        CHECKS.due("the error is the name's", x.cause(0, 1, 1), 11);
        x.put(0, 2, 1, Make.call(x, 0, two, two));
        CHECKS.due("who reads the function", x.cause(0, 2, 1), 21);
        x.put(0, 3, 1, Make.call(x, 0, x.number(3), two));
        CHECKS.due("the function called with another thing is in no circle", Make.shown(x, 0, 3, 1), "2");
        CHECKS.due("that was run, nothing of the circle", x.calls(), 1);
        CHECKS.due("three who read", x.runs(), 3);
        x.erase(0, 0, 0);
        CHECKS.due("a circle no more", Make.text(x, 0), "");
        CHECKS.due("the name", Make.shown(x, 0, 1, 1), "0");
        CHECKS.due("found for both", Make.shown(x, 0, 3, 1), "0");
        CHECKS.due("found for both", x.calls(), 3);
        NoteDocument y = Make.document(6, 1);
        y.put(0, 0, 0, Make.error(y));
        for (int i = 1; i < 4; i++) {
            y.put(0, i, 0, Make.cell(y, i - 1, 0));
        }
        CHECKS.due("through four", y.through(0, 3, 0), 4);
        for (int name = 0; name < 6; name++) {
            y.name(name, y.leaf(1, name));
            y.put(0, 4, 0, y.leaf(1, name));
            CHECKS.due("a name's circle has come through the reader alone", y.through(0, 4, 0), 1);
            CHECKS.due("a name's circle has come through the reader alone", y.cause(0, 4, 0), 40);
        }
    }

    /** All that needs itself is in a circle, whichever is asked for first. */
    private static void overlapping() {
        for (int asked = 0; asked < 4; asked++) {
            NoteDocument x = Make.document(4, 1);
            int[] cell = new int[4];
            for (int i = 0; i < 4; i++) {
                cell[i] = Make.cell(x, i, 0);
            }
            x.put(0, 0, 0, Make.two(x, Make.ADD, cell[1], cell[2]));
            x.put(0, 1, 0, cell[0]);
            x.put(0, 2, 0, Make.orElse(x, cell[1], cell[3]));
            x.put(0, 3, 0, x.number(5));
            x.value(0, asked, 0);
            CHECKS.due("asked for first: " + asked, Make.all(x, 0, 1), "!4 / !4 / !4 / 5");
            for (int i = 0; i < 3; i++) {
                CHECKS.due("arose in each", x.through(0, i, 0), 1);
                CHECKS.due("arose in each", x.cause(0, i, 0), 10 * i);
                CHECKS.due("from nothing", x.valueFromNothing(0, i, 0), 4);
            }
            CHECKS.due("only what is in none is run", x.runs(), 1);
        }
        NoteDocument x = Make.document(4, 1);
        x.put(0, 0, 0, Make.two(x, Make.ADD, Make.cell(x, 0, 0), Make.cell(x, 1, 0)));
        x.put(0, 1, 0, Make.cell(x, 1, 0));
        CHECKS.due("a circle that reads another one", Make.all(x, 0, 1), "!4 / !4 / - / -");
        CHECKS.due("each its own", x.cause(0, 0, 0), 0);
        CHECKS.due("each its own", x.cause(0, 1, 0), 10);
    }

    private static void againAndAgain() {
        NoteDocument x = Make.document(4, 2);
        x.set(0, 3, 0, 1);
        int guard = Make.cell(x, 3, 0);
        x.put(0, 0, 0, Make.cell(x, 1, 0));
        x.put(0, 1, 0, x.when(guard, Make.cell(x, 0, 0), x.number(6)));
        CHECKS.due("a circle", Make.all(x, 0, 1), "!4 / !4 / - / 1");
        x.set(0, 2, 1, 9);
        CHECKS.due("asked for anew, it is the same", Make.all(x, 0, 1), "!4 / !4 / - / 1");
        CHECKS.due("no run", x.runs(), 0);
        x.set(0, 3, 0, 0);
        CHECKS.due("a circle no more", Make.all(x, 0, 1), "6 / 6 / - / 0");
        CHECKS.due("two runs", x.runs(), 2);
        x.set(0, 3, 0, 2);
        CHECKS.due("a circle once more", Make.all(x, 0, 1), "!4 / !4 / - / 2");
        CHECKS.due("no run", x.runs(), 2);
        x.undo();
        CHECKS.due("what was found ahead of it", Make.all(x, 0, 1), "6 / 6 / - / 0");
        CHECKS.due("no run", x.runs(), 2);
        x.undo();
        x.setWay(2);
        CHECKS.due("a circle by hand", Make.all(x, 0, 1), "!4 / !4 / - / 1");
        x.set(0, 3, 0, 0);
        CHECKS.due("it stays", Make.all(x, 0, 1), "!4 / !4 / - / 0");
        CHECKS.due("until all is asked for", x.calculate(), 2);
        CHECKS.due("a circle no more", Make.all(x, 0, 1), "6 / 6 / - / 0");
    }

    public static void main(String[] args) {
        kinds();
        spills();
        errorsTravel();
        fromNothing();
        runs();
        calls();
        circles();
        CHECKS.end();
    }
}
