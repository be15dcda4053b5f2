import java.util.ArrayList;
import java.util.HashMap;
import java.util.HashSet;
import java.util.LinkedHashMap;
import java.util.List;
import java.util.Map;
import java.util.Set;
import java.util.TreeMap;

/**
 * The document once more, as its words say it and without care for speed or room: values are lists
 * and strings, asking is recursion, keeping for undo is copying. ModelTest holds NoteDocument to it.
 */
final class PlainDocument {
    static final long MOST = 1000000000000000L;

    /** A number, an error with the cells that it came through, empty (null stands for it nowhere). */
    record Single(char type, long number, List<String> path) { }

    static final Single EMPTY = new Single('e', 0, List.of());

    static Single num(long n) {
        return n < -MOST || n > MOST ? error(2) : new Single('n', n, List.of());
    }

    static Single error(int kind) {
        return new Single('x', kind, List.of());
    }

    /** A node; where it refers to changes, so that it is copied for undo. */
    static final class Node implements Cloneable {
        String kind;
        int sign;
        int grid;
        int row;
        int column;
        int toRow;
        int toColumn;
        long number;
        List<Integer> parts = new ArrayList<>();
        int weight = 1;
        boolean isTorn;

        Node copy() {
            try {
                return (Node) clone();
            } catch (CloneNotSupportedException e) {
                throw new AssertionError(e);
            }
        }
    }

    /** What was found: a Single, a List of them, or a String, and what was read, with what it was. */
    record Found(Object value, Map<String, Object> reads, boolean isCircle) { }

    /** A formula or a number. */
    record Content(boolean isFormula, long number) { }

    record Part(int letters, String cell, int format) { }

    static final class State {
        Map<Integer, Integer> rows = new HashMap<>();
        Map<String, Content> contents = new HashMap<>();
        Map<String, Long> held = new HashMap<>();
        Map<Integer, Integer> names = new HashMap<>();
        Map<Integer, Integer> bodies = new HashMap<>();
        Map<Integer, List<Part>> notes = new HashMap<>();
        List<Map<String, Long>> scenarios = new ArrayList<>(List.of(new HashMap<>(), new HashMap<>(), new HashMap<>()));
        Map<Integer, Node> nodes = new HashMap<>();
        Map<String, Found> found = new HashMap<>();
        long time;
        long seed;
        long ticks;

        State copy() {
            State to = new State();
            to.rows.putAll(rows);
            to.contents.putAll(contents);
            to.held.putAll(held);
            to.names.putAll(names);
            to.bodies.putAll(bodies);
            notes.forEach((k, v) -> to.notes.put(k, new ArrayList<>(v)));
            for (int i = 0; i < 3; i++) {
                to.scenarios.get(i).putAll(scenarios.get(i));
            }
            nodes.forEach((k, v) -> to.nodes.put(k, v.copy()));
            to.found.putAll(found);
            to.time = time;
            to.seed = seed;
            to.ticks = ticks;
            return to;
        }
    }

    private State now = new State();
    private final List<State> kept = new ArrayList<>();
    private final List<Integer> columns = new ArrayList<>();
    private int noteCount;
    private int nodeCount;
    private int way;
    private int runs;
    private int calls;

    // ---- asking

    /** One asking at a time: what was checked since the last change, and what is being found. */
    private Set<String> checked = new HashSet<>();
    private Map<String, Long> over;
    private final Map<String, Integer> order = new HashMap<>();
    private final Map<String, Integer> low = new HashMap<>();
    private final Set<String> inCircle = new HashSet<>();
    private final List<String> pending = new ArrayList<>();
    private final List<String> stack = new ArrayList<>();
    private final List<Map<String, Object>> reads = new ArrayList<>();
    private final List<int[]> givens = new ArrayList<>();

    private static Object circleOf(String key) {
        if (key.startsWith("note:")) {
            return "!4";
        }
        return key.startsWith("value:") ? new Single('x', 4, List.of(key.substring(6))) : error(4);
    }

    private Object ask(String key) {
        if (order.containsKey(key)) {
            String reader = stack.get(stack.size() - 1);
            low.merge(reader, order.get(key), Math::min);
            inCircle.add(key);
            return circleOf(key);
        }
        if (checked.contains(key)) {
            return now.found.get(key).value;
        }
        stack.add(key);
        pending.add(key);
        order.put(key, order.size() + 1);
        low.put(key, order.get(key));
        inCircle.remove(key);
        Found found = now.found.get(key);
        boolean isSame = found != null && !found.isCircle;
        if (isSame) {
            for (Map.Entry<String, Object> read : found.reads.entrySet()) {
                if (!thing(read.getKey(), key).equals(read.getValue())) {
                    isSame = false;
                    break;
                }
            }
        }
        boolean isRun = !isSame;
        if (isRun) {
            reads.add(new LinkedHashMap<>());
            Object value = run(key);
            found = new Found(value, reads.remove(reads.size() - 1), false);
        }
        if (inCircle.contains(key) || low.get(key) < order.get(key)) {
            found = new Found(circleOf(key), Map.of(), true);
        } else if (isRun && over == null) {
            if (key.startsWith("value:")) {
                runs++;
            }
            if (key.startsWith("function:") && !thing("own", key).equals(-1)) {
                calls++;
            }
        }
        now.found.put(key, found);
        checked.add(key);
        stack.remove(stack.size() - 1);
        if (low.get(key) < order.get(key)) {
            low.merge(stack.get(stack.size() - 1), low.get(key), Math::min);
        } else {
            for (String ended = ""; !ended.equals(key); ) {
                ended = pending.remove(pending.size() - 1);
                order.remove(ended);
            }
        }
        return found.value;
    }

    /** What a thing is that can be read; what is found is asked for. */
    private Object thing(String key, String reader) {
        String[] part = key.split(":");
        switch (part[0]) {
            case "content":
                return contentKey(part[1]);
            case "held":
                return now.held.get(part[1]);
            case "clock":
                return now.time;
            case "counter":
                return now.ticks;
            case "draw":
                return draw(Integer.parseInt(part[1]));
            case "own":
                return own(reader.split(":"));
            default:
                return ask(key);
        }
    }

    private long draw(int draw) {
        return 7919L * ((31L * now.seed + now.ticks) * 31L + draw) % 1000L;
    }

    private Object own(String[] reader) {
        switch (reader[0]) {
            case "name":
                return now.names.getOrDefault(Integer.parseInt(reader[1]), -1);
            case "function":
                return now.bodies.getOrDefault(Integer.parseInt(reader[1]), -1);
            default:
                return parts(Integer.parseInt(reader[1])).size();
        }
    }

    private Object read(String key) {
        String reader = stack.get(stack.size() - 1);
        Object word = thing(key, reader);
        Map<String, Object> list = reads.get(reads.size() - 1);
        if (!list.containsKey(key)) {
            list.put(key, word);
        }
        return word;
    }

    private Content content(String cell) {
        if (over != null && over.containsKey(cell)) {
            return new Content(false, over.get(cell));
        }
        return now.contents.get(cell);
    }

    private String contentKey(String cell) {
        Content c = content(cell);
        if (c == null) {
            return "none";
        }
        return c.isFormula ? "node " + c.number + " " + now.held.containsKey(cell) : "number " + c.number;
    }

    private static String place(int grid, int row, int column) {
        return grid + "," + row + "," + column;
    }

    private static int[] at(String cell) {
        String[] part = cell.split(",");
        return new int[] {Integer.parseInt(part[0]), Integer.parseInt(part[1]), Integer.parseInt(part[2])};
    }

    private List<Part> parts(int note) {
        return now.notes.computeIfAbsent(note, k -> new ArrayList<>());
    }

    // ---- running

    private Object run(String key) {
        String[] part = key.split(":");
        givens.add(null);
        Object value;
        if (part[0].equals("value")) {
            value = runCell(part[1]);
        } else {
            int own = (Integer) read("own");
            if (part[0].equals("note")) {
                value = runNote(Integer.parseInt(part[1]));
            } else {
                if (part[0].equals("function")) {
                    givens.set(givens.size() - 1, new int[] {Integer.parseInt(part[2]), Integer.parseInt(part[3])});
                }
                value = own < 0 ? error(8) : eval(own);
            }
        }
        givens.remove(givens.size() - 1);
        return value;
    }

    @SuppressWarnings("unchecked")
    private static List<Single> row(Object value) {
        return (List<Single>) value;
    }

    private Object runCell(String cell) {
        Object value = eval((int) now.contents.get(cell).number);
        if (value instanceof Single) {
            return through(cell, (Single) value);
        }
        List<Single> list = row(value);
        if (list.size() == 1) {
            return through(cell, list.get(0));
        }
        int[] at = at(cell);
        int rows = now.rows.get(at[0]);
        for (int i = 1; i < list.size() && at[1] + i < rows; i++) {
            if (!read("content:" + place(at[0], at[1] + i, at[2])).equals("none")) {
                return through(cell, error(5));
            }
        }
        if (at[1] + list.size() > rows) {
            return through(cell, error(5));
        }
        List<Single> to = new ArrayList<>();
        for (Single s : list) {
            to.add(through(cell, s));
        }
        return to;
    }

    private static Single through(String cell, Single value) {
        if (value.type != 'x') {
            return value;
        }
        List<String> path = new ArrayList<>();
        path.add(cell);
        path.addAll(value.path);
        return new Single('x', value.number, path);
    }

    private String runNote(int note) {
        StringBuilder text = new StringBuilder();
        for (Part p : parts(note)) {
            if (p.letters > 0) {
                text.append("a".repeat(p.letters));
            } else if (p.cell == null) {
                text.append("!3");
            } else {
                text.append(shown((Single) readCell(p.cell, false), p.format));
            }
        }
        return text.toString();
    }

    private static String shown(Single value, int format) {
        switch (value.type) {
            case 'e':
                return "";
            case 'x':
                return "!" + value.number;
            default:
                if (format == 1) {
                    return String.format(java.util.Locale.ROOT, "%,d", value.number);
                }
                return format == 2 ? String.format("%6d", value.number) : "" + value.number;
        }
    }

    private Object readCell(String cell, boolean isWhole) {
        int[] at = at(cell);
        int row = at[1];
        String content = (String) read("content:" + cell);
        while (content.equals("none") && row > 0) {
            row--;
            content = (String) read("content:" + place(at[0], row, at[2]));
        }
        int offset = at[1] - row;
        if (content.equals("none")) {
            return EMPTY;
        }
        if (content.startsWith("number")) {
            return offset == 0 ? num(Long.parseLong(content.substring(7))) : EMPTY;
        }
        String source = place(at[0], row, at[2]);
        if (content.endsWith("true")) {
            long held = (Long) read("held:" + source);
            return offset == 0 ? num(held) : EMPTY;
        }
        Object value = read("value:" + source);
        return isWhole && offset == 0 ? value : item(value, offset);
    }

    private static Single item(Object value, int offset) {
        if (value instanceof Single) {
            return offset == 0 ? (Single) value : EMPTY;
        }
        return offset < row(value).size() ? row(value).get(offset) : EMPTY;
    }

    private static Single taken(Object value) {
        if (value instanceof List) {
            return error(6);
        }
        return ((Single) value).type == 'e' ? num(0) : (Single) value;
    }

    private static boolean isError(Object value) {
        return value instanceof Single && ((Single) value).type == 'x';
    }

    private boolean isThere(Node n) {
        return !n.isTorn && n.row < now.rows.get(n.grid) && n.toRow < now.rows.get(n.grid);
    }

    private Object eval(int index) {
        Node n = now.nodes.get(index);
        switch (n.kind) {
            case "NUMBER":
                return num(n.number);
            case "CELL":
            case "SPILL":
                return isThere(n) ? readCell(place(n.grid, n.row, n.column), n.kind.equals("SPILL")) : error(3);
            case "RANGE":
                return isThere(n) ? cells(n.grid, n.row, n.column, n.toRow, n.toColumn) : error(3);
            case "COLUMN":
                return cells(n.grid, 0, n.column, now.rows.get(n.grid) - 1, n.column);
            case "NAME":
                return read("name:" + n.sign);
            case "GIVEN":
                int[] given = givens.get(givens.size() - 1);
                return given == null ? error(8) : num(given[n.sign]);
            case "LENGTH":
                return num(((String) read("note:" + n.sign)).length());
            case "CLOCK":
                return num((Long) read("clock"));
            case "COUNTER":
                return num((Long) read("counter"));
            case "DRAW":
                return num((Long) read("draw:" + n.sign));
            default:
                return evalOfParts(n);
        }
    }

    private List<Single> cells(int grid, int row, int column, int toRow, int toColumn) {
        List<Single> list = new ArrayList<>();
        for (int r = row; r <= toRow; r++) {
            for (int c = column; c <= toColumn; c++) {
                list.add((Single) readCell(place(grid, r, c), false));
            }
        }
        return list;
    }

    private Object evalOfParts(Node n) {
        Object a = eval(n.parts.get(0));
        if (n.kind.equals("WHEN")) {
            Single t = taken(a);
            return t.type == 'x' ? t : eval(n.parts.get(t.number != 0 ? 1 : 2));
        }
        if (n.kind.equals("ELSE")) {
            return isError(a) ? eval(n.parts.get(1)) : a;
        }
        if (n.kind.equals("FOLD")) {
            return fold(n.sign, a);
        }
        if (n.kind.equals("LIST")) {
            return list(n.sign, a);
        }
        Object b = eval(n.parts.get(1));
        switch (n.kind) {
            case "TWO":
                return two(n.sign, a, b);
            case "ITEM":
                return itemNode(a, b);
            case "PICK":
                Single r = taken(a);
                Single c = taken(b);
                if (r.type == 'x' || c.type == 'x') {
                    return r.type == 'x' ? r : c;
                }
                boolean isIn = r.number >= 0 && r.number < now.rows.get(n.sign) && c.number >= 0
                        && c.number < columns.get(n.sign);
                return isIn ? readCell(place(n.sign, (int) r.number, (int) c.number), false) : error(3);
            case "CALL":
                return call(n.sign, taken(a), taken(b));
            default:
                return each(n.sign, a, b);
        }
    }

    private Object call(int function, Single a, Single b) {
        if (a.type == 'x' || b.type == 'x') {
            return a.type == 'x' ? a : b;
        }
        if (a.number < 0 || a.number > 12 || b.number < 0 || b.number > 12) {
            return error(2);
        }
        return read("function:" + function + ":" + a.number + ":" + b.number);
    }

    private Object each(int function, Object a, Object b) {
        if (isError(a) || !(a instanceof List)) {
            return isError(a) ? a : error(6);
        }
        if (taken(b).type == 'x') {
            return taken(b);
        }
        List<Single> to = new ArrayList<>();
        for (Single s : row(a)) {
            Object value = call(function, taken(s), taken(b));
            to.add(value instanceof List ? error(6) : (Single) value);
        }
        return to;
    }

    private static Object itemNode(Object a, Object b) {
        if (isError(a) || !(a instanceof List)) {
            return isError(a) ? a : error(6);
        }
        Single k = taken(b);
        if (k.type == 'x') {
            return k;
        }
        return k.number < 1 || k.number > row(a).size() ? error(8) : row(a).get((int) k.number - 1);
    }

    private static Single one(int sign, Single first, Single second) {
        Single a = taken(first);
        Single b = taken(second);
        if (a.type == 'x' || b.type == 'x') {
            return a.type == 'x' ? a : b;
        }
        java.math.BigInteger x = java.math.BigInteger.valueOf(a.number);
        java.math.BigInteger y = java.math.BigInteger.valueOf(b.number);
        switch (sign) {
            case 0:
                return num(a.number + b.number);
            case 1:
                return num(a.number - b.number);
            case 2:
                return x.multiply(y).abs().compareTo(java.math.BigInteger.valueOf(MOST)) > 0
                        ? error(2) : num(a.number * b.number);
            case 3:
                return b.number == 0 ? error(1) : num(Math.floorDiv(a.number, b.number));
            case 4:
                return b.number == 0 ? error(1)
                        : num(a.number - b.number * Math.floorDiv(a.number, b.number));
            case 5:
                return num(Math.min(a.number, b.number));
            case 6:
                return num(Math.max(a.number, b.number));
            case 7:
                return num(a.number < b.number ? 1 : 0);
            case 8:
                return num(a.number == b.number ? 1 : 0);
            default:
                float f = b.number == 0 ? 0 : (float) a.number / (float) b.number;
                return b.number == 0 ? error(1) : num((long) (f * 1000f));
        }
    }

    private static Object two(int sign, Object a, Object b) {
        if (isError(a) || isError(b)) {
            return isError(a) ? a : b;
        }
        if (a instanceof Single && b instanceof Single) {
            return one(sign, (Single) a, (Single) b);
        }
        int size = a instanceof List ? row(a).size() : row(b).size();
        if (a instanceof List && b instanceof List && row(b).size() != size) {
            return error(7);
        }
        List<Single> to = new ArrayList<>();
        for (int i = 0; i < size; i++) {
            Single x = a instanceof List ? row(a).get(i) : (Single) a;
            Single y = b instanceof List ? row(b).get(i) : (Single) b;
            to.add(one(sign, x, y));
        }
        return to;
    }

    /** The numbers of a row, or the first error in it as the only one. */
    private static List<Single> numbers(Object a) {
        List<Single> to = new ArrayList<>();
        for (Single s : row(a)) {
            if (s.type == 'x') {
                return List.of(s);
            }
            if (s.type == 'n') {
                to.add(s);
            }
        }
        return to;
    }

    private static Object fold(int sign, Object a) {
        if (!(a instanceof List)) {
            return isError(a) ? a : error(6);
        }
        List<Single> list = numbers(a);
        if (list.size() == 1 && list.get(0).type == 'x') {
            return list.get(0);
        }
        var all = list.stream().mapToLong(Single::number);
        switch (sign) {
            case 0:
                return num(all.sum());
            case 1:
                return num(list.size());
            case 2:
                return list.isEmpty() ? error(8) : num(all.max().getAsLong());
            default:
                return list.isEmpty() ? error(8) : num(all.min().getAsLong());
        }
    }

    private static Object list(int sign, Object a) {
        List<Single> to = new ArrayList<>();
        if (sign == 0) {
            Single n = taken(a);
            if (n.type == 'x') {
                return n;
            }
            for (int i = 1; i <= Math.min(n.number, 20); i++) {
                to.add(num(i));
            }
            return n.number < 1 || n.number > 20 ? error(2) : to;
        }
        if (!(a instanceof List)) {
            return isError(a) ? a : error(6);
        }
        if (sign == 1) {
            for (Single s : row(a)) {
                to.add(0, s);
            }
            return to;
        }
        to.addAll(numbers(a));
        if (to.size() == 1 && to.get(0).type == 'x') {
            return to.get(0);
        }
        if (sign == 2) {
            to.sort((x, y) -> Long.compare(x.number, y.number));
        } else {
            to.removeIf(s -> s.number <= 0);
        }
        return to.isEmpty() ? error(8) : to;
    }

    // ---- what callers read

    private Object whole(String cell, boolean isAsked) {
        int[] at = at(cell);
        int row = at[1];
        while (row > 0 && content(place(at[0], row, at[2])) == null) {
            row--;
        }
        String source = place(at[0], row, at[2]);
        Content c = content(source);
        if (c == null || !c.isFormula) {
            return c == null || row != at[1] ? EMPTY : num(c.number);
        }
        if (now.held.containsKey(source)) {
            return row == at[1] ? num(now.held.get(source)) : EMPTY;
        }
        Object value = EMPTY;
        if (isAsked) {
            value = ask("value:" + source);
        } else if (now.found.containsKey("value:" + source)) {
            value = now.found.get("value:" + source).value;
        }
        return row == at[1] ? value : item(value, at[1] - row);
    }

    private Object kept(int grid, int row, int column) {
        checkCell(grid, row, column);
        return whole(place(grid, row, column), way != 2);
    }

    private Single fresh(String cell, Map<String, Long> numbers) {
        Map<String, Found> before = now.found;
        Set<String> beforeChecked = checked;
        now.found = new HashMap<>();
        checked = new HashSet<>();
        over = numbers;
        Single value = item(whole(cell, true), 0);
        over = null;
        now.found = before;
        checked = beforeChecked;
        return value;
    }

    private static int kindOf(Single s) {
        return s.type == 'e' ? 0 : s.type == 'n' ? 1 : 2;
    }

    private String text(int note) {
        if (way == 2) {
            Found found = now.found.get("note:" + note);
            return found == null ? "" : (String) found.value;
        }
        return (String) ask("note:" + note);
    }

    private void askAll() {
        for (String cell : formulas()) {
            ask("value:" + cell);
        }
        for (int i = 0; i < noteCount; i++) {
            ask("note:" + i);
        }
    }

    private List<String> formulas() {
        List<String> list = new ArrayList<>();
        now.contents.forEach((k, v) -> {
            if (v.isFormula) {
                list.add(k);
            }
        });
        list.sort((x, y) -> Long.compare(number(x), number(y)));
        return list;
    }

    private static int number(String cell) {
        int[] at = at(cell);
        return at[0] * 1000 + at[1] * 10 + at[2];
    }

    private void keep() {
        kept.add(now.copy());
        if (kept.size() > 5) {
            kept.remove(0);
        }
        checked.clear();
    }

    private void done() {
        checked.clear();
        if (way == 1) {
            askAll();
        }
    }

    // ---- the face

    private void checkCell(int grid, int row, int column) {
        rows(grid);
        if (row < 0 || row >= rows(grid) || column < 0 || column >= columns.get(grid)) {
            throw new IndexOutOfBoundsException();
        }
    }

    private void checkNode(int node) {
        if (node < 0 || node >= nodeCount) {
            throw new IndexOutOfBoundsException();
        }
    }

    private void checkNote(int note) {
        if (note < 0 || note >= noteCount) {
            throw new IndexOutOfBoundsException();
        }
    }

    private static void checkArgument(boolean isFine) {
        if (!isFine) {
            throw new IllegalArgumentException();
        }
    }

    private static void checkState(boolean isFine) {
        if (!isFine) {
            throw new IllegalStateException();
        }
    }

    private static boolean isNumber(long number) {
        return number >= -MOST && number <= MOST;
    }

    public int grid(int rows, int columns) {
        checkArgument(rows >= 1 && rows <= 10 && columns >= 1 && columns <= 5);
        checkState(this.columns.size() < 4);
        this.columns.add(columns);
        now.rows.put(this.columns.size() - 1, rows);
        return this.columns.size() - 1;
    }

    public int rows(int grid) {
        if (grid < 0 || grid >= columns.size()) {
            throw new IndexOutOfBoundsException();
        }
        return now.rows.get(grid);
    }

    private void place(String cell, Content content) {
        if (content == null || !content.equals(now.contents.get(cell))) {
            now.found.remove("value:" + cell);
        }
        if (content == null) {
            now.contents.remove(cell);
        } else {
            now.contents.put(cell, content);
        }
        now.held.remove(cell);
        if (content == null || content.isFormula) {
            now.scenarios.forEach(s -> s.remove(cell));
        }
    }

    public void set(int grid, int row, int column, long number) {
        checkCell(grid, row, column);
        checkArgument(isNumber(number));
        keep();
        place(place(grid, row, column), new Content(false, number));
        done();
    }

    public void put(int grid, int row, int column, int node) {
        checkCell(grid, row, column);
        checkNode(node);
        keep();
        place(place(grid, row, column), new Content(true, node));
        done();
    }

    public int erase(int grid, int row, int column) {
        checkCell(grid, row, column);
        keep();
        Content before = now.contents.get(place(grid, row, column));
        place(place(grid, row, column), null);
        done();
        return before == null ? 0 : before.isFormula ? 2 : 1;
    }

    public boolean hold(int grid, int row, int column, long first) {
        checkCell(grid, row, column);
        String cell = place(grid, row, column);
        boolean isHeld = now.held.containsKey(cell);
        checkArgument(isHeld || isNumber(first));
        checkState(now.contents.containsKey(cell) && now.contents.get(cell).isFormula);
        keep();
        if (isHeld) {
            now.held.remove(cell);
        } else {
            now.held.put(cell, first);
        }
        done();
        return !isHeld;
    }

    public int rounds(int bound) {
        checkArgument(bound >= 1 && bound <= 50);
        keep();
        int count = 0;
        for (int i = 0; i < bound; i++) {
            Map<String, Long> next = new TreeMap<>();
            for (String cell : formulas()) {
                if (now.held.containsKey(cell)) {
                    Object value = ask("value:" + cell);
                    boolean isNumber = value instanceof Single && ((Single) value).type != 'x';
                    next.put(cell, isNumber ? taken(value).number : now.held.get(cell));
                }
            }
            if (next.equals(new TreeMap<>(now.held))) {
                break;
            }
            now.held.putAll(next);
            checked.clear();
            count++;
        }
        done();
        return count;
    }

    private int make(String kind, int sign, int... parts) {
        checkState(nodeCount < 150);
        Node n = new Node();
        n.kind = kind;
        n.sign = sign;
        for (int part : parts) {
            n.parts.add(part);
            n.weight += now.nodes.get(part).weight;
        }
        checkState(n.weight <= 40);
        now.nodes.put(nodeCount, n);
        nodeCount++;
        return nodeCount - 1;
    }

    public int number(long number) {
        checkArgument(isNumber(number));
        int node = make("NUMBER", 0);
        now.nodes.get(node).number = number;
        return node;
    }

    public int cell(int grid, int row, int column, boolean isSpill) {
        checkCell(grid, row, column);
        return refer(make(isSpill ? "SPILL" : "CELL", 0), grid, row, column, row, column);
    }

    private int refer(int node, int grid, int row, int column, int toRow, int toColumn) {
        Node n = now.nodes.get(node);
        n.grid = grid;
        n.row = row;
        n.column = column;
        n.toRow = toRow;
        n.toColumn = toColumn;
        return node;
    }

    public int range(int grid, int row, int column, int toRow, int toColumn) {
        checkCell(grid, row, column);
        checkCell(grid, toRow, toColumn);
        checkArgument(toRow >= row && toColumn >= column);
        return refer(make("RANGE", 0), grid, row, column, toRow, toColumn);
    }

    public int leaf(int kind, int of) {
        checkArgument(kind >= 0 && kind <= 6);
        int[] most = {0, 6, 2, noteCount, 0, 0, 10};
        checkArgument(kind == 0 || kind == 4 || kind == 5 || of >= 0 && of < most[kind]);
        if (kind == 0) {
            checkArgument(of >= 0 && of / 10 < columns.size() && of % 10 < columns.get(of / 10));
            return refer(make("COLUMN", 0), of / 10, 0, of % 10, 0, of % 10);
        }
        return make(new String[] {"", "NAME", "GIVEN", "LENGTH", "CLOCK", "COUNTER", "DRAW"}[kind], of);
    }

    public int node(int kind, int sign, int first, int second) {
        checkArgument(kind >= 0 && kind <= 7);
        int[] most = {10, 4, 4, 0, columns.size(), 4, 4, 0};
        checkArgument(kind == 3 || kind == 7 || sign >= 0 && sign < most[kind]);
        checkNode(first);
        boolean isOfOne = kind == 1 || kind == 2;
        if (!isOfOne) {
            checkNode(second);
        }
        String name = new String[] {"TWO", "FOLD", "LIST", "ITEM", "PICK", "CALL", "EACH", "ELSE"}[kind];
        return isOfOne ? make(name, sign, first) : make(name, sign, first, second);
    }

    public int when(int first, int second, int third) {
        checkNode(first);
        checkNode(second);
        checkNode(third);
        return make("WHEN", 0, first, second, third);
    }

    public int torn() {
        return (int) now.nodes.values().stream().filter(n -> n.isTorn).count();
    }

    public void name(int name, int node) {
        checkArgument(name >= 0 && name < 6);
        if (node != -1) {
            checkNode(node);
        }
        keep();
        now.names.put(name, node);
        done();
    }

    public void define(int function, int node) {
        checkArgument(function >= 0 && function < 4);
        if (node != -1) {
            checkNode(node);
        }
        keep();
        now.bodies.put(function, node);
        done();
    }

    public int note() {
        checkState(noteCount < 3);
        noteCount++;
        return noteCount - 1;
    }

    public int say(int note, int letters) {
        checkNote(note);
        checkArgument(letters >= 1 && letters <= 20);
        checkState(parts(note).size() < 8);
        keep();
        parts(note).add(new Part(letters, null, 0));
        done();
        return parts(note).size();
    }

    public int show(int note, int grid, int row, int column, int format) {
        checkNote(note);
        checkCell(grid, row, column);
        checkArgument(format >= 0 && format <= 2);
        checkState(parts(note).size() < 8);
        keep();
        parts(note).add(new Part(0, place(grid, row, column), format));
        done();
        return parts(note).size();
    }

    public int tick(int time, int seed) {
        checkArgument(time >= 0 && time <= 1000000 && seed >= 0 && seed <= 1000000);
        checkState(now.ticks < 1000);
        keep();
        now.time = time;
        now.seed = seed;
        now.ticks++;
        done();
        return (int) now.ticks;
    }

    public int setWay(int way) {
        checkArgument(way >= 0 && way <= 2);
        int before = this.way;
        this.way = way;
        if (way == 1 && before != 1) {
            askAll();
        }
        return before;
    }

    public int calculate() {
        int before = runs;
        askAll();
        return runs - before;
    }

    public int kind(int grid, int row, int column) {
        return kindOf(item(kept(grid, row, column), 0));
    }

    public long value(int grid, int row, int column) {
        return item(kept(grid, row, column), 0).number;
    }

    public int spills(int grid, int row, int column) {
        Object value = kept(grid, row, column);
        return value instanceof List ? row(value).size() : 1;
    }

    public int through(int grid, int row, int column) {
        return item(kept(grid, row, column), 0).path.size();
    }

    public int cause(int grid, int row, int column) {
        List<String> path = item(kept(grid, row, column), 0).path;
        if (path.isEmpty()) {
            return -1;
        }
        int[] at = at(path.get(path.size() - 1));
        return at[0] * 100 + at[1] * 10 + at[2];
    }

    public int kindFromNothing(int grid, int row, int column) {
        checkCell(grid, row, column);
        return kindOf(fresh(place(grid, row, column), Map.of()));
    }

    public long valueFromNothing(int grid, int row, int column) {
        checkCell(grid, row, column);
        return fresh(place(grid, row, column), Map.of()).number;
    }

    public int length(int note) {
        checkNote(note);
        return text(note).length();
    }

    public int letter(int note, int place) {
        checkNote(note);
        Map<String, Found> foundAhead = new HashMap<>(now.found);
        Set<String> checkedAhead = new HashSet<>(checked);
        int runsAhead = runs;
        int callsAhead = calls;
        String text = text(note);
        if (place < 0 || place >= text.length()) {
            now.found = foundAhead;
            checked = checkedAhead;
            runs = runsAhead;
            calls = callsAhead;
            throw new IndexOutOfBoundsException();
        }
        return text.charAt(place);
    }

    public int runs() {
        return runs;
    }

    public int calls() {
        return calls;
    }

    // ---- what goes elsewhere

    /** Tells where a cell goes, null if it is gone; ranges are seen to by those who call. */
    private interface Goal {
        String of(String cell);
    }

    private static <T> Map<String, T> carried(Map<String, T> map, Goal goal) {
        Map<String, T> to = new HashMap<>();
        map.forEach((k, v) -> {
            if (goal.of(k) != null) {
                to.put(goal.of(k), v);
            }
        });
        return to;
    }

    private int carry(Goal goal) {
        now.contents = carried(now.contents, goal);
        now.held = carried(now.held, goal);
        for (int i = 0; i < 3; i++) {
            now.scenarios.set(i, carried(now.scenarios.get(i), goal));
        }
        now.notes.values().forEach(list -> list.replaceAll(p ->
                p.cell == null ? p : new Part(0, goal.of(p.cell), p.format)));
        int count = 0;
        for (Node n : now.nodes.values()) {
            if (!n.isTorn && (n.kind.equals("CELL") || n.kind.equals("SPILL"))) {
                String to = goal.of(place(n.grid, n.row, n.column));
                if (to == null) {
                    n.isTorn = true;
                    count++;
                } else {
                    n.row = at(to)[1];
                    n.toRow = n.row;
                    n.column = at(to)[2];
                }
            }
        }
        now.found.clear();
        return count;
    }

    public int insert(int grid, int row) {
        if (row < 0 || row > rows(grid)) {
            throw new IndexOutOfBoundsException();
        }
        checkState(rows(grid) < 10);
        keep();
        now.rows.merge(grid, 1, Integer::sum);
        carry(cell -> {
            int[] at = at(cell);
            return at[0] != grid || at[1] < row ? cell : place(grid, at[1] + 1, at[2]);
        });
        for (Node n : now.nodes.values()) {
            if (n.kind.equals("RANGE") && n.grid == grid && !n.isTorn) {
                n.row += n.row >= row ? 1 : 0;
                n.toRow += n.toRow >= row ? 1 : 0;
            }
        }
        done();
        return rows(grid);
    }

    public int remove(int grid, int row) {
        checkCell(grid, row, 0);
        checkState(rows(grid) > 1);
        keep();
        now.rows.merge(grid, -1, Integer::sum);
        int count = carry(cell -> {
            int[] at = at(cell);
            if (at[0] == grid && at[1] == row) {
                return null;
            }
            return at[0] != grid || at[1] < row ? cell : place(grid, at[1] - 1, at[2]);
        });
        for (Node n : now.nodes.values()) {
            if (n.kind.equals("RANGE") && n.grid == grid && !n.isTorn) {
                n.row -= n.row > row ? 1 : 0;
                n.toRow -= n.toRow >= row ? 1 : 0;
                if (n.toRow < n.row) {
                    n.isTorn = true;
                    count++;
                }
            }
        }
        done();
        return count;
    }

    public int move(int grid, int row, int column, int toRow, int toColumn) {
        checkCell(grid, row, column);
        checkCell(grid, toRow, toColumn);
        String from = place(grid, row, column);
        String to = place(grid, toRow, toColumn);
        checkArgument(!from.equals(to));
        checkState(now.contents.containsKey(from));
        keep();
        int count = carry(cell -> cell.equals(to) ? null : cell.equals(from) ? to : cell);
        done();
        return count;
    }

    public int sort(int grid, int row, int to, int column) {
        checkCell(grid, row, column);
        checkCell(grid, to, column);
        checkArgument(to >= row);
        keep();
        List<Integer> line = new ArrayList<>();
        for (int i = row; i <= to; i++) {
            line.add(i);
        }
        line.sort((a, b) -> {
            Content x = now.contents.get(place(grid, a, column));
            Content y = now.contents.get(place(grid, b, column));
            boolean isX = x != null && !x.isFormula;
            boolean isY = y != null && !y.isFormula;
            if (isX && isY) {
                return Long.compare(x.number, y.number);
            }
            return Boolean.compare(isY, isX);
        });
        int count = 0;
        Map<Integer, Integer> goal = new HashMap<>();
        for (int i = row; i <= to; i++) {
            goal.put(line.get(i - row), i);
            count += line.get(i - row) == i ? 0 : 1;
        }
        carry(cell -> {
            int[] at = at(cell);
            return at[0] == grid ? place(grid, goal.getOrDefault(at[1], at[1]), at[2]) : cell;
        });
        done();
        return count;
    }

    // ---- scenarios, goals, undo

    public int overlay(int scenario, int grid, int row, int column, long number) {
        checkArgument(scenario >= 0 && scenario <= 2 && isNumber(number));
        checkCell(grid, row, column);
        Content content = now.contents.get(place(grid, row, column));
        checkState(content != null && !content.isFormula);
        keep();
        now.scenarios.get(scenario).put(place(grid, row, column), number);
        done();
        return now.scenarios.get(scenario).size();
    }

    public int drop(int scenario) {
        checkArgument(scenario >= 0 && scenario <= 2);
        keep();
        int count = now.scenarios.get(scenario).size();
        now.scenarios.get(scenario).clear();
        done();
        return count;
    }

    public int kindIn(int scenario, int grid, int row, int column) {
        checkArgument(scenario >= 0 && scenario <= 2);
        checkCell(grid, row, column);
        return kindOf(fresh(place(grid, row, column), now.scenarios.get(scenario)));
    }

    public long valueIn(int scenario, int grid, int row, int column) {
        checkArgument(scenario >= 0 && scenario <= 2);
        checkCell(grid, row, column);
        return fresh(place(grid, row, column), now.scenarios.get(scenario)).number;
    }

    public int seek(int grid, int of, int goal, long wanted, int least, int many) {
        checkCell(grid, Math.floorDiv(of, 10), Math.floorMod(of, 10));
        checkCell(grid, Math.floorDiv(goal, 10), Math.floorMod(goal, 10));
        checkArgument(least >= -1000 && least <= 1000 && many >= 1 && many <= 40);
        String cell = place(grid, of / 10, of % 10);
        checkState(now.contents.containsKey(cell) && !now.contents.get(cell).isFormula);
        for (int i = least; i < least + many; i++) {
            Single value = fresh(place(grid, goal / 10, goal % 10), Map.of(cell, (long) i));
            if (value.type == 'n' && value.number >= wanted) {
                return i;
            }
        }
        return 1000000;
    }

    public int undo() {
        checkState(!kept.isEmpty());
        State before = kept.remove(kept.size() - 1);
        for (int i = 0; i < nodeCount; i++) {
            if (!before.nodes.containsKey(i)) {
                before.nodes.put(i, now.nodes.get(i));
            }
        }
        for (int i = 0; i < columns.size(); i++) {
            if (!before.rows.containsKey(i)) {
                before.rows.put(i, now.rows.get(i));
            }
        }
        now = before;
        checked.clear();
        return kept.size();
    }
}
