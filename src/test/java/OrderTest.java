import java.util.ArrayList;
import java.util.Collections;
import java.util.List;
import java.util.Random;

/**
 * Random documents with many circles: it counts for nothing in which order things are asked for, nor
 * what was found ahead.
 */
public final class OrderTest {
    private static final Checks CHECKS = new Checks();
    private static final int DOCUMENTS = 1500;
    private static final int ORDERS = 4;
    private static final int CHANGES = 12;

    private final Random random;
    private final NoteDocument x = new NoteDocument();
    private final int rows;
    private final int columns;
    private int nodes;

    /** The same seed makes the same document. */
    private OrderTest(long seed) {
        random = new Random(seed);
        rows = 2 + random.nextInt(4);
        columns = 1 + random.nextInt(3);
        x.grid(rows, columns);
        x.note();
        for (int many = 20 + random.nextInt(60); nodes < many; ) {
            nodes = makeNode() + 1;
        }
        for (int i = 0; i < 2; i++) {
            x.define(i, node());
            x.name(i, node());
        }
        for (int cell = 0; cell < rows * columns; cell++) {
            int what = random.nextInt(8);
            if (what == 0) {
                x.set(0, cell / columns, cell % columns, random.nextInt(4));
            } else if (what < 7) {
                x.put(0, cell / columns, cell % columns, node());
            }
        }
        x.show(0, 0, random.nextInt(rows), random.nextInt(columns), 0);
    }

    private int node() {
        return random.nextInt(Math.max(1, nodes));
    }

    private int makeNode() {
        try {
            return nodes < 4 || random.nextInt(5) < 2 ? makeLeaf() : makeOfParts();
        } catch (IllegalStateException tooHeavy) {
            return x.number(0);
        }
    }

    private int makeLeaf() {
        int row = random.nextInt(rows);
        int column = random.nextInt(columns);
        switch (random.nextInt(6)) {
            case 0:
                return x.number(random.nextInt(4));
            case 1:
                int kind = 1 + random.nextInt(3);
                return x.leaf(kind, kind == 3 ? 0 : random.nextInt(2));
            case 2:
                return x.range(0, row, column, row + random.nextInt(rows - row), column + random.nextInt(columns - column));
            default:
                return x.cell(0, row, column, random.nextInt(4) == 0);
        }
    }

    private int makeOfParts() {
        int first = node();
        int second = node();
        switch (random.nextInt(9)) {
            case 0:
                return x.when(first, second, node());
            case 1:
                return Make.two(x, random.nextInt(10), first, second);
            case 2:
                return Make.fold(x, random.nextInt(4), first);
            case 3:
                return Make.list(x, random.nextInt(4), first);
            case 4:
                return Make.pick(x, 0, first, second);
            case 5:
                return Make.call(x, random.nextInt(2), first, second);
            case 6:
                return Make.each(x, random.nextInt(2), first, second);
            default:
                // What does without errors tells a circle from what only reads one.
                return Make.orElse(x, first, second);
        }
    }

    /** Asks for all cells and the note, in an order. */
    private void ask(long order) {
        List<Integer> places = new ArrayList<>();
        for (int i = 0; i <= rows * columns; i++) {
            places.add(i);
        }
        Collections.shuffle(places, new Random(order));
        for (int place : places) {
            if (place == rows * columns) {
                x.length(0);
            } else {
                x.value(0, place / columns, place % columns);
            }
        }
    }

    private void change() {
        int row = random.nextInt(rows);
        int column = random.nextInt(columns);
        int number = random.nextInt(4);
        switch (random.nextInt(8)) {
            case 0:
                x.set(0, row, column, number);
                break;
            case 1:
                x.erase(0, row, column);
                break;
            case 2:
                x.define(number % 2, node());
                break;
            case 3:
                x.name(number % 2, node());
                break;
            case 4:
                x.put(0, row, column, node());
                x.hold(0, row, column, number);
                break;
            default:
                x.put(0, row, column, node());
        }
    }

    private String answers() {
        StringBuilder text = new StringBuilder(Make.all(x, 0, columns)).append(' ').append(Make.text(x, 0));
        for (int cell = 0; cell < rows * columns; cell++) {
            int row = cell / columns;
            int column = cell % columns;
            text.append(' ').append(x.spills(0, row, column)).append(' ').append(x.through(0, row, column))
                .append(' ').append(x.cause(0, row, column));
        }
        return text.toString();
    }

    private boolean isAsFromNothing() {
        for (int cell = 0; cell < rows * columns; cell++) {
            int row = cell / columns;
            int column = cell % columns;
            if (x.kind(0, row, column) != x.kindFromNothing(0, row, column)
                || x.value(0, row, column) != x.valueFromNothing(0, row, column)) {
                return false;
            }
        }
        return true;
    }

    private static void orders(long seed) {
        CHECKS.promise("The document " + seed);
        String first = "";
        for (int order = 0; order < ORDERS; order++) {
            OrderTest test = new OrderTest(seed);
            test.ask(order);
            String answers = test.answers() + " runs " + test.x.runs() + " calls " + test.x.calls();
            first = order == 0 ? answers : first;
            CHECKS.due("asked for in the order " + order, answers, first);
        }
    }

    private static void changes(long seed) {
        CHECKS.promise("The document " + seed + ", changed");
        OrderTest asked = new OrderTest(seed);
        OrderTest silent = new OrderTest(seed);
        boolean isFine = true;
        for (int i = 0; i < CHANGES && isFine; i++) {
            asked.ask(seed + i);
            asked.change();
            silent.change();
            isFine = asked.isAsFromNothing();
        }
        CHECKS.due("as found from nothing", isFine);
        CHECKS.due("asked for all the while", asked.answers(), silent.answers());
    }

    public static void main(String[] args) {
        long from = args.length > 0 ? Long.parseLong(args[0]) : 1;
        int many = args.length > 1 ? Integer.parseInt(args[1]) : DOCUMENTS;
        for (long seed = from; seed < from + many; seed++) {
            orders(seed);
            changes(seed);
        }
        CHECKS.end();
    }
}
