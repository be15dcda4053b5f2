/** Makes documents and nodes, by the names that the document has for them. */
final class Make {
    static final int FOLD_SUM = 0;
    static final int FOLD_COUNT = 1;
    static final int FOLD_GREATEST = 2;
    static final int FOLD_LEAST = 3;
    static final int ADD = 0;
    static final int SUBTRACT = 1;
    static final int MULTIPLY = 2;
    static final int DIVIDE = 3;
    static final int REST = 4;

    /** Makes the nodes of a formula, and answers the last one. */
    interface Formula {
        int in(NoteDocument x);
    }

    static NoteDocument document(int rows, int columns) {
        NoteDocument x = new NoteDocument();
        x.grid(rows, columns);
        return x;
    }

    static int two(NoteDocument x, int sign, int first, int second) {
        return x.node(0, sign, first, second);
    }

    static int fold(NoteDocument x, int sign, int part) {
        return x.node(1, sign, part, 0);
    }

    /** The row 1 to a number. */
    static int upTo(NoteDocument x, long number) {
        return x.node(2, 0, x.number(number), 0);
    }

    static int list(NoteDocument x, int sign, int part) {
        return x.node(2, sign, part, 0);
    }

    static int item(NoteDocument x, int row, int place) {
        return x.node(3, 0, row, place);
    }

    static int pick(NoteDocument x, int grid, int row, int column) {
        return x.node(4, grid, row, column);
    }

    static int call(NoteDocument x, int function, int first, int second) {
        return x.node(5, function, first, second);
    }

    static int each(NoteDocument x, int function, int row, int second) {
        return x.node(6, function, row, second);
    }

    static int orElse(NoteDocument x, int first, int second) {
        return x.node(7, 0, first, second);
    }

    static int cell(NoteDocument x, int row, int column) {
        return x.cell(0, row, column, false);
    }

    static int spill(NoteDocument x, int row, int column) {
        return x.cell(0, row, column, true);
    }

    /** A node that refers to a cell without a content. */
    static int empty(NoteDocument x) {
        return cell(x, 9, 0);
    }

    /** A node with the error 1. */
    static int error(NoteDocument x) {
        int zero = x.number(0);
        return two(x, DIVIDE, zero, zero);
    }

    /** A row of the given numbers, at most ten, from the column 3, where they are put. */
    static int row(NoteDocument x, long... numbers) {
        for (int i = 0; i < numbers.length; i++) {
            x.set(0, i, 3, numbers[i]);
        }
        return x.range(0, 0, 3, numbers.length - 1, 3);
    }

    /** A row 1 to a number with the error 1 at a place, from 1. */
    static int flawed(NoteDocument x, int many, int place) {
        return two(x, DIVIDE, x.number(12), two(x, SUBTRACT, upTo(x, many), x.number(place)));
    }

    /** A document of 10 rows and 5 columns with the formula in the first row of the last column. */
    static NoteDocument with(Formula formula) {
        NoteDocument x = document(10, 5);
        x.put(0, 0, 4, formula.in(x));
        return x;
    }

    /** What a formula comes to: all that its cell spills, by spaces. */
    static String of(Formula formula) {
        NoteDocument x = with(formula);
        StringBuilder text = new StringBuilder();
        int many = x.spills(0, 0, 4);
        for (int i = 0; i < many; i++) {
            text.append(i == 0 ? "" : " ").append(shown(x, 0, i, 4));
        }
        return text.toString();
    }

    /** A value: a number as it is, an error behind "!", empty as "-". */
    static String shown(NoteDocument x, int grid, int row, int column) {
        switch (x.kind(grid, row, column)) {
            case 0:
                return "-";
            case 1:
                return "" + x.value(grid, row, column);
            default:
                return "!" + x.value(grid, row, column);
        }
    }

    /** All values of a grid, a row by a line, by spaces and "/". */
    static String all(NoteDocument x, int grid, int columns) {
        StringBuilder text = new StringBuilder();
        for (int row = 0; row < x.rows(grid); row++) {
            text.append(row == 0 ? "" : " / ");
            for (int column = 0; column < columns; column++) {
                text.append(column == 0 ? "" : " ").append(shown(x, grid, row, column));
            }
        }
        return text.toString();
    }

    static String text(NoteDocument x, int note) {
        StringBuilder text = new StringBuilder();
        int many = x.length(note);
        for (int i = 0; i < many; i++) {
            text.append((char) x.letter(note, i));
        }
        return text.toString();
    }

    /** Makes nodes until there are so many. */
    static void nodes(NoteDocument x, int many) {
        int made = x.number(0) + 1;
        for (int i = made; i < many; i++) {
            x.number(i);
        }
    }

    /** A node of a weight: 1, or an uneven one by TWO, or one more than that by FOLD. */
    static int weighing(NoteDocument x, int weight) {
        int leaf = x.number(0);
        int node = leaf;
        for (int i = 3; i <= weight; i += 2) {
            node = two(x, ADD, node, leaf);
        }
        return weight % 2 == 0 ? fold(x, FOLD_SUM, node) : node;
    }
}
