import java.util.Arrays;

/**
 * A document of grids, notes and functions that depend on one another; formulas are run as far as
 * is asked and no further.
 */
public final class NoteDocument {
    private static final int MOST_GRIDS = 4;
    private static final int MOST_ROWS = 10;
    private static final int MOST_COLUMNS = 5;
    private static final int GRID_CELLS = MOST_ROWS * MOST_COLUMNS;
    private static final int CELLS = MOST_GRIDS * GRID_CELLS;
    private static final int MOST_NODES = 150;
    private static final int HEAVIEST = 40;
    private static final int NAMES = 6;
    private static final int FUNCTIONS = 4;
    private static final int GIVENS = 13;
    private static final int MOST_NOTES = 3;
    private static final int MOST_PARTS = 8;
    private static final int MOST_LETTERS = 20;
    private static final int FORMATS = 3;
    private static final int SCENARIOS = 3;
    private static final int KEPT = 5;
    private static final int MOST_TICKS = 1000;
    private static final int LATEST = 1000000;
    private static final int NOT_FOUND = 1000000;

    // What is found has a number: first the cells, then names, functions for what they are given, notes.
    private static final int NAME_ENTRY = CELLS;
    private static final int FUNCTION_ENTRY = NAME_ENTRY + NAMES;
    private static final int NOTE_ENTRY = FUNCTION_ENTRY + FUNCTIONS * GIVENS * GIVENS;
    private static final int ENTRIES = NOTE_ENTRY + MOST_NOTES;

    // What is read has a number: what is found has its own, all else comes behind.
    private static final int CONTENT = ENTRIES;
    private static final int HELD = CONTENT + CELLS;
    private static final int CLOCK = HELD + CELLS;
    private static final int COUNTER = CLOCK + 1;
    private static final int DRAW = COUNTER + 1;
    private static final int DRAWS = 10;
    private static final int OWN = DRAW + DRAWS;
    private static final int THINGS = OWN + 1;

    private static final int BY_NEED = 0;
    private static final int BY_PUSH = 1;
    private static final int BY_HAND = 2;

    // What a caller reads: what is kept, or what is found from nothing; a scenario stands for itself.
    private static final int AS_KEPT = -1;
    private static final int FROM_NOTHING = -2;
    private static final int AS_TRIED = -3;

    private final State state = new State();
    private final Nodes nodes = new Nodes(state);
    private final Chains chains = new Chains();
    private final Heap heap = new Heap();
    private final Desk desk = new Desk(state, heap);
    private final Finder finder = new Finder(desk, new Runner(desk, nodes, chains));
    private final Mover mover = new Mover(state, nodes);
    private final State[] kept = new State[KEPT];
    private int firstKept;
    private int keptCount;
    private int way = BY_NEED;

    public NoteDocument() {
        for (int i = 0; i < KEPT; i++) {
            kept[i] = new State();
        }
    }

    // ---- grids and contents

    public int grid(int rows, int columns) throws IllegalArgumentException, IllegalStateException {
        if (rows < 1 || rows > MOST_ROWS || columns < 1 || columns > MOST_COLUMNS) {
            throw new IllegalArgumentException("rows or columns out of range");
        }
        if (state.grids >= MOST_GRIDS) {
            throw new IllegalStateException("there are 4 grids");
        }
        state.rows[state.grids] = rows;
        state.columns[state.grids] = columns;
        state.grids++;
        return state.grids - 1;
    }

    public int rows(int grid) throws IndexOutOfBoundsException {
        checkGrid(grid);
        return state.rows[grid];
    }

    public void set(int grid, int row, int column, long number)
            throws IndexOutOfBoundsException, IllegalArgumentException {
        int cell = cellAt(grid, row, column);
        if (!Words.isInRange(number)) {
            throw new IllegalArgumentException("number out of range");
        }
        keep();
        state.place(cell, number);
        askAll(false);
    }

    public void put(int grid, int row, int column, int node) throws IndexOutOfBoundsException {
        int cell = cellAt(grid, row, column);
        checkNode(node);
        keep();
        state.place(cell, Words.formula(node));
        state.dropNumbers(cell);
        askAll(false);
    }

    public int erase(int grid, int row, int column) throws IndexOutOfBoundsException {
        int cell = cellAt(grid, row, column);
        keep();
        long before = state.content[cell];
        state.place(cell, Words.EMPTY);
        state.dropNumbers(cell);
        askAll(false);
        if (Words.isNumber(before)) {
            return 1;
        }
        return Words.isFormula(before) ? 2 : 0;
    }

    public boolean hold(int grid, int row, int column, long first)
            throws IndexOutOfBoundsException, IllegalArgumentException, IllegalStateException {
        int cell = cellAt(grid, row, column);
        boolean isHeld = state.held[cell] != Words.EMPTY;
        if (!isHeld && !Words.isInRange(first)) {
            throw new IllegalArgumentException("first out of range");
        }
        if (!Words.isFormula(state.content[cell])) {
            throw new IllegalStateException("no formula");
        }
        keep();
        state.held[cell] = isHeld ? Words.EMPTY : first;
        askAll(false);
        return !isHeld;
    }

    public int rounds(int bound) throws IllegalArgumentException {
        if (bound < 1 || bound > 50) {
            throw new IllegalArgumentException("bound out of range");
        }
        keep();
        int changing = 0;
        for (int i = 0; i < bound; i++) {
            tidy();
            if (!doRound()) {
                break;
            }
            changing++;
        }
        askAll(false);
        return changing;
    }

    // ---- nodes

    public int number(long number) throws IllegalArgumentException, IllegalStateException {
        if (!Words.isInRange(number)) {
            throw new IllegalArgumentException("number out of range");
        }
        checkRoomForNode();
        int node = nodes.add(Nodes.NUMBER, 0, 0, 0, 0);
        nodes.number[node] = number;
        return node;
    }

    public int cell(int grid, int row, int column, boolean isSpill)
            throws IndexOutOfBoundsException, IllegalStateException {
        cellAt(grid, row, column);
        checkRoomForNode();
        int node = nodes.add(isSpill ? Nodes.SPILL : Nodes.CELL, grid, 0, 0, 0);
        nodes.refer(node, row, column, row);
        return node;
    }

    public int range(int grid, int row, int column, int toRow, int toColumn)
            throws IndexOutOfBoundsException, IllegalArgumentException, IllegalStateException {
        cellAt(grid, row, column);
        cellAt(grid, toRow, toColumn);
        if (toRow < row || toColumn < column) {
            throw new IllegalArgumentException("a range from behind");
        }
        checkRoomForNode();
        int node = nodes.add(Nodes.RANGE, grid, 0, 0, toColumn);
        nodes.refer(node, row, column, toRow);
        return node;
    }

    public int leaf(int kind, int of) throws IllegalArgumentException, IllegalStateException {
        if (!isLeaf(kind, of)) {
            throw new IllegalArgumentException("no such leaf");
        }
        checkRoomForNode();
        if (kind != 0) {
            return nodes.add(Nodes.COLUMN + kind, of, 0, 0, 0);
        }
        int node = nodes.add(Nodes.COLUMN, of / 10, 0, 0, 0);
        nodes.refer(node, 0, of % 10, 0);
        return node;
    }

    public int node(int kind, int sign, int first, int second)
            throws IllegalArgumentException, IndexOutOfBoundsException, IllegalStateException {
        if (!isSign(kind, sign)) {
            throw new IllegalArgumentException("no such kind or sign");
        }
        boolean isOfTwo = kind != Nodes.FOLD && kind != Nodes.LIST;
        checkNode(first);
        if (isOfTwo) {
            checkNode(second);
        }
        checkRoomForNode();
        checkWeight(nodes.weight[first] + (isOfTwo ? nodes.weight[second] : 0));
        return nodes.add(kind, sign, first, isOfTwo ? second : first, 0);
    }

    public int when(int first, int second, int third) throws IndexOutOfBoundsException, IllegalStateException {
        checkNode(first);
        checkNode(second);
        checkNode(third);
        checkRoomForNode();
        checkWeight(nodes.weight[first] + nodes.weight[second] + nodes.weight[third]);
        return nodes.add(Nodes.WHEN, 0, first, second, third);
    }

    public int torn() {
        int count = 0;
        for (int i = 0; i < state.nodes; i++) {
            if (state.torn[i]) {
                count++;
            }
        }
        return count;
    }

    // ---- names, functions, notes

    public void name(int name, int node) throws IllegalArgumentException, IndexOutOfBoundsException {
        if (name < 0 || name >= NAMES) {
            throw new IllegalArgumentException("name out of range");
        }
        if (node != -1) {
            checkNode(node);
        }
        keep();
        state.named[name] = node;
        askAll(false);
    }

    public void define(int function, int node) throws IllegalArgumentException, IndexOutOfBoundsException {
        if (function < 0 || function >= FUNCTIONS) {
            throw new IllegalArgumentException("function out of range");
        }
        if (node != -1) {
            checkNode(node);
        }
        keep();
        state.body[function] = node;
        askAll(false);
    }

    public int note() throws IllegalStateException {
        if (state.notes >= MOST_NOTES) {
            throw new IllegalStateException("there are 3 notes");
        }
        state.notes++;
        return state.notes - 1;
    }

    public int say(int note, int letters)
            throws IndexOutOfBoundsException, IllegalArgumentException, IllegalStateException {
        checkNote(note);
        if (letters < 1 || letters > MOST_LETTERS) {
            throw new IllegalArgumentException("letters out of range");
        }
        checkRoomForPart(note);
        keep();
        state.addPart(note, letters);
        askAll(false);
        return state.partCount[note];
    }

    public int show(int note, int grid, int row, int column, int format)
            throws IndexOutOfBoundsException, IllegalArgumentException, IllegalStateException {
        checkNote(note);
        int cell = cellAt(grid, row, column);
        if (format < 0 || format >= FORMATS) {
            throw new IllegalArgumentException("format out of range");
        }
        checkRoomForPart(note);
        keep();
        state.addPart(note, State.SHOWN + cell * FORMATS + format);
        askAll(false);
        return state.partCount[note];
    }

    // ---- clock, way

    public int tick(int time, int seed) throws IllegalArgumentException, IllegalStateException {
        if (time < 0 || time > LATEST || seed < 0 || seed > LATEST) {
            throw new IllegalArgumentException("time or seed out of range");
        }
        if (state.ticks >= MOST_TICKS) {
            throw new IllegalStateException("there were 1000 ticks");
        }
        keep();
        state.ticks++;
        state.time = time;
        state.seed = seed;
        askAll(false);
        return state.ticks;
    }

    public int setWay(int way) throws IllegalArgumentException {
        if (way < BY_NEED || way > BY_HAND) {
            throw new IllegalArgumentException("way out of range");
        }
        int before = this.way;
        this.way = way;
        if (before != way) {
            askAll(false);
        }
        return before;
    }

    public int calculate() {
        int before = finder.runCount;
        askAll(true);
        return finder.runCount - before;
    }

    // ---- what is read

    public int kind(int grid, int row, int column) throws IndexOutOfBoundsException {
        return Words.kindOf(read(cellAt(grid, row, column), AS_KEPT));
    }

    public long value(int grid, int row, int column) throws IndexOutOfBoundsException {
        return Words.shownOf(read(cellAt(grid, row, column), AS_KEPT));
    }

    public int spills(int grid, int row, int column) throws IndexOutOfBoundsException {
        int cell = cellAt(grid, row, column);
        read(cell, AS_KEPT);
        long content = desk.contentOf(cell);
        if (!Words.isFormula(content) || Words.isHeld(content)) {
            return 1;
        }
        return heap.countOf(desk.lastFound(cell));
    }

    public int through(int grid, int row, int column) throws IndexOutOfBoundsException {
        long word = read(cellAt(grid, row, column), AS_KEPT);
        return Words.isError(word) ? chains.sizeOf(Words.chainOf(word)) : 0;
    }

    public int cause(int grid, int row, int column) throws IndexOutOfBoundsException {
        long word = read(cellAt(grid, row, column), AS_KEPT);
        if (!Words.isError(word)) {
            return -1;
        }
        int cell = chains.causeOf(Words.chainOf(word));
        return 100 * gridOf(cell) + 10 * rowOf(cell) + columnOf(cell);
    }

    public int kindFromNothing(int grid, int row, int column) throws IndexOutOfBoundsException {
        return Words.kindOf(read(cellAt(grid, row, column), FROM_NOTHING));
    }

    public long valueFromNothing(int grid, int row, int column) throws IndexOutOfBoundsException {
        return Words.shownOf(read(cellAt(grid, row, column), FROM_NOTHING));
    }

    public int length(int note) throws IndexOutOfBoundsException {
        checkNote(note);
        tidy();
        return heap.lengthOf(readNote(note));
    }

    public int letter(int note, int place) throws IndexOutOfBoundsException {
        checkNote(note);
        tidy();
        finder.remember();
        long text = readNote(note);
        if (place < 0 || place >= heap.lengthOf(text)) {
            finder.takeBack();
            throw new IndexOutOfBoundsException("no such character");
        }
        return (int) heap.itemOf(text, place);
    }

    public int runs() {
        return finder.runCount;
    }

    public int calls() {
        return finder.callCount;
    }

    // ---- inserts, removals, moves, sorts

    public int insert(int grid, int row) throws IndexOutOfBoundsException, IllegalStateException {
        checkGrid(grid);
        if (row < 0 || row > state.rows[grid]) {
            throw new IndexOutOfBoundsException("row out of range");
        }
        if (state.rows[grid] >= MOST_ROWS) {
            throw new IllegalStateException("it has 10 rows");
        }
        keep();
        mover.insertRow(grid, row);
        state.forgetAll();
        askAll(false);
        return state.rows[grid];
    }

    public int remove(int grid, int row) throws IndexOutOfBoundsException, IllegalStateException {
        cellAt(grid, row, 0);
        if (state.rows[grid] <= 1) {
            throw new IllegalStateException("the only row");
        }
        keep();
        int count = mover.removeRow(grid, row);
        state.forgetAll();
        askAll(false);
        return count;
    }

    public int move(int grid, int row, int column, int toRow, int toColumn)
            throws IndexOutOfBoundsException, IllegalArgumentException, IllegalStateException {
        int from = cellAt(grid, row, column);
        int to = cellAt(grid, toRow, toColumn);
        if (from == to) {
            throw new IllegalArgumentException("both are the same");
        }
        if (state.content[from] == Words.EMPTY) {
            throw new IllegalStateException("no content");
        }
        keep();
        int count = mover.moveContent(from, to);
        state.forgetAll();
        askAll(false);
        return count;
    }

    public int sort(int grid, int row, int to, int column)
            throws IndexOutOfBoundsException, IllegalArgumentException {
        cellAt(grid, row, column);
        cellAt(grid, to, column);
        if (to < row) {
            throw new IllegalArgumentException("to is below row");
        }
        keep();
        int count = mover.sortRows(grid, row, to, column);
        state.forgetAll();
        askAll(false);
        return count;
    }

    // ---- scenarios, goals, undo

    public int overlay(int scenario, int grid, int row, int column, long number)
            throws IllegalArgumentException, IndexOutOfBoundsException, IllegalStateException {
        checkScenario(scenario);
        if (!Words.isInRange(number)) {
            throw new IllegalArgumentException("number out of range");
        }
        int cell = cellAt(grid, row, column);
        if (!Words.isNumber(state.content[cell])) {
            throw new IllegalStateException("the cell has no number");
        }
        keep();
        state.other[scenario * CELLS + cell] = number;
        askAll(false);
        return state.numbersOf(scenario);
    }

    public int drop(int scenario) throws IllegalArgumentException {
        checkScenario(scenario);
        keep();
        int count = state.numbersOf(scenario);
        Arrays.fill(state.other, scenario * CELLS, (scenario + 1) * CELLS, Words.EMPTY);
        askAll(false);
        return count;
    }

    public int kindIn(int scenario, int grid, int row, int column)
            throws IllegalArgumentException, IndexOutOfBoundsException {
        checkScenario(scenario);
        return Words.kindOf(read(cellAt(grid, row, column), scenario));
    }

    public long valueIn(int scenario, int grid, int row, int column)
            throws IllegalArgumentException, IndexOutOfBoundsException {
        checkScenario(scenario);
        return Words.shownOf(read(cellAt(grid, row, column), scenario));
    }

    public int seek(int grid, int of, int goal, long wanted, int least, int many)
            throws IndexOutOfBoundsException, IllegalArgumentException, IllegalStateException {
        int cell = cellAt(grid, of / 10, of < 0 ? -1 : of % 10);
        int looked = cellAt(grid, goal / 10, goal < 0 ? -1 : goal % 10);
        if (least < -1000 || least > 1000 || many < 1 || many > 40) {
            throw new IllegalArgumentException("least or many out of range");
        }
        if (!Words.isNumber(state.content[cell])) {
            throw new IllegalStateException("the cell has no number");
        }
        Arrays.fill(desk.over, Words.EMPTY);
        for (int i = 0; i < many; i++) {
            desk.over[cell] = least + i;
            long word = read(looked, AS_TRIED);
            if (Words.isNumber(word) && word >= wanted) {
                return least + i;
            }
        }
        return NOT_FOUND;
    }

    public int undo() throws IllegalStateException {
        if (keptCount == 0) {
            throw new IllegalStateException("none is kept");
        }
        keptCount--;
        state.bringBack(kept[(firstKept + keptCount) % KEPT]);
        desk.now++;
        return keptCount;
    }

    // ---- what is looked at ahead of a call

    private void checkGrid(int grid) {
        if (grid < 0 || grid >= state.grids) {
            throw new IndexOutOfBoundsException("no such grid");
        }
    }

    private int cellAt(int grid, int row, int column) {
        checkGrid(grid);
        if (row < 0 || row >= state.rows[grid] || column < 0 || column >= state.columns[grid]) {
            throw new IndexOutOfBoundsException("no such cell");
        }
        return grid * GRID_CELLS + row * MOST_COLUMNS + column;
    }

    private static int gridOf(int cell) {
        return cell / GRID_CELLS;
    }

    private static int rowOf(int cell) {
        return cell % GRID_CELLS / MOST_COLUMNS;
    }

    private static int columnOf(int cell) {
        return cell % MOST_COLUMNS;
    }

    private void checkNode(int node) {
        if (node < 0 || node >= state.nodes) {
            throw new IndexOutOfBoundsException("no such node");
        }
    }

    private void checkRoomForNode() {
        if (state.nodes >= MOST_NODES) {
            throw new IllegalStateException("there are 150 nodes");
        }
    }

    private void checkWeight(int weightOfParts) {
        if (weightOfParts + 1 > HEAVIEST) {
            throw new IllegalStateException("too heavy");
        }
    }

    private boolean isLeaf(int kind, int of) {
        switch (kind) {
            case 0:
                return of >= 0 && of / 10 < state.grids && of % 10 < state.columns[of / 10];
            case 1:
                return of >= 0 && of < NAMES;
            case 2:
                return of == 0 || of == 1;
            case 3:
                return of >= 0 && of < state.notes;
            case 6:
                return of >= 0 && of < DRAWS;
            default:
                return kind == 4 || kind == 5;
        }
    }

    private boolean isSign(int kind, int sign) {
        switch (kind) {
            case Nodes.TWO:
                return sign >= 0 && sign <= 9;
            case Nodes.FOLD:
            case Nodes.LIST:
                return sign >= 0 && sign <= 3;
            case Nodes.PICK:
                return sign >= 0 && sign < state.grids;
            case Nodes.CALL:
            case Nodes.EACH:
                return sign >= 0 && sign < FUNCTIONS;
            default:
                return kind == Nodes.ITEM || kind == Nodes.ELSE;
        }
    }

    private void checkNote(int note) {
        if (note < 0 || note >= state.notes) {
            throw new IndexOutOfBoundsException("no such note");
        }
    }

    private void checkRoomForPart(int note) {
        if (state.partCount[note] >= MOST_PARTS) {
            throw new IllegalStateException("it has 8 parts");
        }
    }

    private void checkScenario(int scenario) {
        if (scenario < 0 || scenario >= SCENARIOS) {
            throw new IllegalArgumentException("scenario out of range");
        }
    }

    // ---- what is done around a call

    /** Keeps what stands ahead of a call that is undoable; what was checked till now counts no more. */
    private void keep() {
        if (keptCount == KEPT) {
            firstKept = (firstKept + 1) % KEPT;
            keptCount--;
        }
        kept[(firstKept + keptCount) % KEPT].keep(state);
        keptCount++;
        desk.now++;
    }

    /** Throws away what nobody refers to any more; only between runs, for runs point into the heap. */
    private void tidy() {
        if (!heap.isRatherFull() && !chains.isRatherFull()) {
            return;
        }
        tidyHeap();
        if (chains.isRatherFull()) {
            chains.unmark();
            heap.markChains(chains);
            chains.tellGoals();
            heap.leadChains(chains);
            chains.slide();
        }
    }

    private void tidyHeap() {
        heap.markRecords(state.record);
        for (int i = 0; i < keptCount; i++) {
            heap.markRecords(kept[(firstKept + i) % KEPT].record);
        }
        heap.tellGoals();
        heap.leadRecords(state.record);
        for (int i = 0; i < keptCount; i++) {
            heap.leadRecords(kept[(firstKept + i) % KEPT].record);
        }
        heap.slide();
    }

    /** Asks for all cells with formulas and all notes, if this is always so or the way is by push. */
    private void askAll(boolean isAlways) {
        if (!isAlways && way != BY_PUSH) {
            return;
        }
        tidy();
        for (int cell = 0; cell < CELLS; cell++) {
            if (Words.isFormula(state.content[cell])) {
                finder.find(cell);
            }
        }
        for (int note = 0; note < state.notes; note++) {
            finder.find(NOTE_ENTRY + note);
        }
    }

    /** Does a round; returns whether what is held has changed. */
    private boolean doRound() {
        for (int cell = 0; cell < CELLS; cell++) {
            if (state.held[cell] != Words.EMPTY) {
                finder.find(cell);
            }
        }
        boolean isOther = false;
        for (int cell = 0; cell < CELLS; cell++) {
            long word = desk.lastFound(cell);
            if (state.held[cell] == Words.EMPTY || Words.isError(word) || Words.isRow(word)) {
                continue;
            }
            long number = Words.taken(word);
            isOther = isOther || number != state.held[cell];
            state.held[cell] = number;
        }
        desk.now++;
        return isOther;
    }

    /** What a caller reads of a cell, of a row its first value; how tells from what it is found. */
    private long read(int cell, int how) {
        tidy();
        boolean isFresh = how != AS_KEPT;
        int top = heap.top;
        if (isFresh) {
            desk.beginFresh(how);
        }
        int at = desk.sourceOf(cell);
        long content = desk.contentOf(at);
        long word = content;
        if (Words.isFormula(content)) {
            if (Words.isHeld(content)) {
                word = state.held[at];
            } else {
                if (isFresh || way != BY_HAND) {
                    finder.find(at);
                }
                word = desk.lastFound(at);
            }
            word = heap.itemOf(word, rowOf(cell) - rowOf(at));
        } else if (at != cell) {
            word = Words.EMPTY;
        }
        if (isFresh) {
            desk.endFresh();
            heap.top = top;
        }
        return word;
    }

    private long readNote(int note) {
        if (way != BY_HAND) {
            finder.find(NOTE_ENTRY + note);
        }
        return desk.lastFound(NOTE_ENTRY + note);
    }

    /**
     * How values and contents stand in the lower 53 bits of a long: a number as it is, all else behind
     * a tag. A row points into the heap, an error tells its kind and its chain, a formula its node.
     * The upper 11 bits are free for the key of what was read.
     */
    private static final class Words {
        static final long MOST = 1000000000000000L;
        static final int KEY = 53;
        static final int ABOVE = 64 - KEY;
        static final int TAG = 50;
        static final int ROW_TAG = 2;
        static final long EMPTY = 1L << TAG;
        static final long ERROR = EMPTY;
        static final long ROW = (long) ROW_TAG << TAG;
        static final long FORMULA = 3L << TAG;
        // An error of no kind would be what is empty.
        static final int KIND = 40;
        static final long LOW = 0x7fffffffL;

        static final int CIRCLE = 4;

        // Errors that have come through no cell yet, by their kinds.
        static final long BY_ZERO = ERROR | 1L << KIND;
        static final long OUT_OF_RANGE = ERROR | 2L << KIND;
        static final long TORN = ERROR | 3L << KIND;
        static final long IN_CIRCLE = ERROR | (long) CIRCLE << KIND;
        static final long BLOCKED = ERROR | 5L << KIND;
        static final long NO_ROW = ERROR | 6L << KIND;
        static final long UNLIKE = ERROR | 7L << KIND;
        static final long NOTHING = ERROR | 8L << KIND;

        static boolean isInRange(long number) {
            return number >= -MOST && number <= MOST;
        }

        static boolean isNumber(long word) {
            return word < EMPTY;
        }

        static boolean isError(long word) {
            return word >> TAG == 1 && word != EMPTY;
        }

        static boolean isRow(long word) {
            return word >> TAG == ROW_TAG;
        }

        static boolean isFormula(long word) {
            return word >> TAG == 3;
        }

        static boolean isHeld(long word) {
            return (word & 1) == 1;
        }

        static int keyOf(long keyed) {
            return (int) (keyed >>> KEY);
        }

        static long unkeyed(long keyed) {
            return keyed << ABOVE >> ABOVE;
        }

        static long rekeyed(long keyed, long word) {
            return keyed >>> KEY << KEY | word << ABOVE >>> ABOVE;
        }

        static long formula(int node) {
            return FORMULA | (long) node << 1;
        }

        static int nodeOf(long word) {
            return (int) (word & LOW) >> 1;
        }

        static int errorOf(long word) {
            return (int) (word >> KIND) & 15;
        }

        static int chainOf(long word) {
            return (int) (word & LOW);
        }

        static long errorWith(int kind, int chain) {
            return ERROR | (long) kind << KIND | chain;
        }

        static int pointerOf(long word) {
            return (int) (word & LOW);
        }

        /** 0 empty, 1 a number, 2 an error. */
        static int kindOf(long word) {
            if (isNumber(word)) {
                return 1;
            }
            return isError(word) ? 2 : 0;
        }

        static long shownOf(long word) {
            if (isNumber(word)) {
                return word;
            }
            return isError(word) ? errorOf(word) : 0;
        }

        /** A value taken as a number: an error stays, an empty value is 0, a row is an error. */
        static long taken(long word) {
            if (word >> TAG == ROW_TAG) {
                return NO_ROW;
            }
            return word == EMPTY ? 0 : word;
        }

        static long ranged(long number) {
            return number >= -MOST && number <= MOST ? number : OUT_OF_RANGE;
        }

        /** Two values that are no rows, each taken as a number, by the sign of a TWO. */
        static long two(int sign, long first, long second) {
            long a = taken(first);
            long b = taken(second);
            if (isError(a)) {
                return a;
            }
            if (isError(b)) {
                return b;
            }
            switch (sign) {
                case 0:
                    return ranged(a + b);
                case 1:
                    return ranged(a - b);
                case 2:
                    return product(a, b);
                case 3:
                    return b == 0 ? BY_ZERO : ranged(Math.floorDiv(a, b));
                case 4:
                    return b == 0 ? BY_ZERO : Math.floorMod(a, b);
                case 5:
                    return Math.min(a, b);
                case 6:
                    return Math.max(a, b);
                case 7:
                    return a < b ? 1 : 0;
                case 8:
                    return a == b ? 1 : 0;
                default:
                    return b == 0 ? BY_ZERO : ranged((long) ((float) a / (float) b * 1000f));
            }
        }

        /** A product is looked at ahead of multiplying, for it can be too large even for a long. */
        private static long product(long a, long b) {
            if (a != 0 && Math.abs(b) > MOST / Math.abs(a)) {
                return OUT_OF_RANGE;
            }
            return a * b;
        }
    }

    /** All that undo() brings back, and how many grids, notes and nodes there are. */
    private static final class State {
        // A part of a note: so many letters, or what is torn, or what is shown with its format.
        static final int TORN_PART = 99;
        static final int SHOWN = 100;

        int grids;
        int notes;
        int nodes;
        final int[] columns = new int[MOST_GRIDS];
        final int[] rows = new int[MOST_GRIDS];
        final long[] content = new long[CELLS];
        final long[] held = new long[CELLS];
        final long[] other = new long[SCENARIOS * CELLS];
        final int[] named = new int[NAMES];
        final int[] body = new int[FUNCTIONS];
        final int[] parts = new int[MOST_NOTES * MOST_PARTS];
        final int[] partCount = new int[MOST_NOTES];
        final int[] refRow = new int[MOST_NODES];
        final int[] refColumn = new int[MOST_NODES];
        final int[] refToRow = new int[MOST_NODES];
        final boolean[] torn = new boolean[MOST_NODES];
        final int[] record = new int[ENTRIES];
        int time;
        int seed;
        int ticks;

        State() {
            Arrays.fill(content, Words.EMPTY);
            Arrays.fill(held, Words.EMPTY);
            Arrays.fill(other, Words.EMPTY);
            Arrays.fill(named, -1);
            Arrays.fill(body, -1);
        }

        void keep(State from) {
            copy(from);
            grids = from.grids;
            nodes = from.nodes;
        }

        /** Grids, notes and nodes that were made since stay. */
        void bringBack(State from) {
            copy(from);
        }

        private void copy(State from) {
            System.arraycopy(from.rows, 0, rows, 0, from.grids);
            System.arraycopy(from.content, 0, content, 0, CELLS);
            System.arraycopy(from.held, 0, held, 0, CELLS);
            System.arraycopy(from.other, 0, other, 0, SCENARIOS * CELLS);
            System.arraycopy(from.named, 0, named, 0, NAMES);
            System.arraycopy(from.body, 0, body, 0, FUNCTIONS);
            System.arraycopy(from.parts, 0, parts, 0, MOST_NOTES * MOST_PARTS);
            System.arraycopy(from.partCount, 0, partCount, 0, MOST_NOTES);
            System.arraycopy(from.refRow, 0, refRow, 0, from.nodes);
            System.arraycopy(from.refColumn, 0, refColumn, 0, from.nodes);
            System.arraycopy(from.refToRow, 0, refToRow, 0, from.nodes);
            System.arraycopy(from.record, 0, record, 0, ENTRIES);
            for (int i = 0; i < from.nodes; i++) {
                torn[i] = from.torn[i];
            }
            time = from.time;
            seed = from.seed;
            ticks = from.ticks;
        }

        /** Gives a cell a content, or none; it is held no more. */
        void place(int cell, long word) {
            if (content[cell] != word) {
                record[cell] = 0;
            }
            content[cell] = word;
            held[cell] = Words.EMPTY;
        }

        void dropNumbers(int cell) {
            for (int i = 0; i < SCENARIOS; i++) {
                other[i * CELLS + cell] = Words.EMPTY;
            }
        }

        int numbersOf(int scenario) {
            int count = 0;
            for (int cell = 0; cell < CELLS; cell++) {
                if (other[scenario * CELLS + cell] != Words.EMPTY) {
                    count++;
                }
            }
            return count;
        }

        void addPart(int note, int part) {
            if (partCount[note] < MOST_PARTS) {
                parts[note * MOST_PARTS + partCount[note]] = part;
                partCount[note]++;
            }
        }

        void forgetAll() {
            Arrays.fill(record, 0);
        }

        int drawOf(int draw) {
            return (int) (7919L * ((31L * seed + ticks) * 31L + draw) % 1000L);
        }
    }

    /** The nodes as they were made; where references lead stands in the state, for calls change it. */
    private static final class Nodes {
        static final int TWO = 0;
        static final int FOLD = 1;
        static final int LIST = 2;
        static final int ITEM = 3;
        static final int PICK = 4;
        static final int CALL = 5;
        static final int EACH = 6;
        static final int ELSE = 7;
        static final int WHEN = 8;
        static final int NUMBER = 9;
        static final int CELL = 10;
        static final int SPILL = 11;
        static final int RANGE = 12;
        static final int COLUMN = 13;
        static final int NAME = 14;
        static final int GIVEN = 15;
        static final int LENGTH = 16;
        static final int TIME = 17;
        static final int TICKS = 18;
        static final int DRAWN = 19;

        private final State state;
        final int[] kind = new int[MOST_NODES];
        // The sign, grid, function, name, given thing, note or draw.
        final int[] of = new int[MOST_NODES];
        final int[] first = new int[MOST_NODES];
        final int[] second = new int[MOST_NODES];
        // Of a RANGE its last column.
        final int[] third = new int[MOST_NODES];
        final int[] weight = new int[MOST_NODES];
        final long[] number = new long[MOST_NODES];

        Nodes(State state) {
            this.state = state;
        }

        /** Adds a node; that there is room, and that its parts are there, is known. */
        int add(int kind, int of, int first, int second, int third) {
            int node = state.nodes;
            this.kind[node] = kind;
            this.of[node] = of;
            this.first[node] = first;
            this.second[node] = second;
            this.third[node] = third;
            int heavy = 1;
            if (kind <= WHEN) {
                heavy += weight[first];
            }
            if (kind <= WHEN && kind != FOLD && kind != LIST) {
                heavy += weight[second];
            }
            if (kind == WHEN) {
                heavy += weight[third];
            }
            weight[node] = heavy;
            state.nodes++;
            return node;
        }

        void refer(int node, int row, int column, int toRow) {
            state.refRow[node] = row;
            state.refColumn[node] = column;
            state.refToRow[node] = toRow;
        }

        boolean isCellOf(int node, int grid) {
            return (kind[node] == CELL || kind[node] == SPILL) && of[node] == grid && !state.torn[node];
        }

        boolean isRangeOf(int node, int grid) {
            return kind[node] == RANGE && of[node] == grid && !state.torn[node];
        }

        /** Whether a reference leads somewhere: undo() can leave nodes without their cells. */
        boolean isThere(int node) {
            return !state.torn[node] && state.refToRow[node] < state.rows[of[node]];
        }
    }

    /**
     * The cells through which errors have come. Each chain is there once, so that the same chain has
     * the same number; 0 is the chain of no cell, 1 and on are those of one cell, which stay. A chain
     * is made behind the one that it goes on with.
     */
    private static final class Chains {
        private static final int FIRST_SIZE = 512;

        private int[] cell = new int[FIRST_SIZE];
        private int[] behind = new int[FIRST_SIZE];
        private int[] size = new int[FIRST_SIZE];
        // While chains are thrown away: 0 of those that go, otherwise which number they get.
        private int[] nextLikely = new int[FIRST_SIZE];
        private int[] firstLikely = new int[FIRST_SIZE];
        private int count = 1;

        Chains() {
            cell[0] = -1;
            for (int i = 0; i < CELLS; i++) {
                add(i, 0);
            }
        }

        int sizeOf(int chain) {
            return chain >= 0 && chain < count ? size[chain] : 0;
        }

        /** The last cell of a chain; 0 for the chain of none, which no cell shows. */
        int causeOf(int chain) {
            if (chain <= 0 || chain >= count) {
                return 0;
            }
            int at = chain;
            for (int i = size[chain]; i > 1 && behind[at] > 0; i--) {
                at = behind[at];
            }
            return cell[at];
        }

        /** A value as the result of a cell: an error in it has come through that cell, too. */
        long pass(int first, long word) {
            if (!Words.isError(word)) {
                return word;
            }
            int chain = Words.chainOf(word);
            int at = firstLikely[slot(first, chain)];
            for (int i = 0; i < count && at > 0; i++) {
                if (cell[at] == first && behind[at] == chain) {
                    break;
                }
                at = nextLikely[at];
            }
            if (at <= 0) {
                if (count >= cell.length) {
                    grow();
                    findAgain();
                }
                at = add(first, chain);
            }
            return Words.errorWith(Words.errorOf(word), at);
        }

        private int add(int first, int chain) {
            int at = count;
            int slot = slot(first, chain);
            cell[at] = first;
            behind[at] = chain;
            size[at] = size[chain] + 1;
            nextLikely[at] = firstLikely[slot];
            firstLikely[slot] = at;
            count++;
            return at;
        }

        private int slot(int first, int chain) {
            int mixed = (chain * CELLS + first) * 0x9E3779B1;
            return (mixed ^ mixed >>> 15) & firstLikely.length - 1;
        }

        /** Makes room for more chains, which are to be found again then. */
        private void grow() {
            int larger = cell.length * 2;
            cell = Arrays.copyOf(cell, larger);
            behind = Arrays.copyOf(behind, larger);
            size = Arrays.copyOf(size, larger);
            nextLikely = new int[larger];
            firstLikely = new int[larger];
        }

        /** Lets each chain be found by its first cell and what is behind it. */
        private void findAgain() {
            Arrays.fill(firstLikely, 0);
            for (int i = 1; i < count; i++) {
                int slot = slot(cell[i], behind[i]);
                nextLikely[i] = firstLikely[slot];
                firstLikely[slot] = i;
            }
        }

        boolean isRatherFull() {
            return count > cell.length / 4 * 3;
        }

        /** Begins to throw chains away: of none is it known that it stays, but of those of one cell. */
        void unmark() {
            Arrays.fill(nextLikely, 0);
        }

        /** A chain stays, and with it all those that it goes on with. */
        void mark(int chain) {
            int at = chain;
            for (int i = 0; i < count && at > CELLS && at < count && nextLikely[at] == 0; i++) {
                nextLikely[at] = at;
                at = behind[at];
            }
        }

        /** Tells each chain that stays which number it gets. */
        void tellGoals() {
            int goal = CELLS;
            for (int i = CELLS + 1; i < count; i++) {
                if (nextLikely[i] > 0) {
                    goal++;
                    nextLikely[i] = goal;
                }
            }
        }

        int goalOf(int chain) {
            return chain > CELLS && chain < count ? nextLikely[chain] : chain;
        }

        /** Lets the chains that stay have the numbers that they were told. */
        void slide() {
            int end = CELLS + 1;
            for (int i = CELLS + 1; i < count; i++) {
                if (nextLikely[i] > 0) {
                    cell[end] = cell[i];
                    behind[end] = goalOf(behind[i]);
                    size[end] = size[i];
                    end++;
                }
            }
            count = end;
            if (count > cell.length / 2) {
                grow();
            }
            findAgain();
        }
    }

    /**
     * Where rows and what was found stand, never changed once written, so that keeping for undo()
     * is keeping pointers. They stand one behind another, each behind a head: of a row how many
     * values it has; of a record what was found, RECORD with twice the count of what was read (and
     * 1 more in a circle), then the value, and what was read with what it was then.
     */
    private static final class Heap {
        private static final int FIRST_SIZE = 1 << 13;
        // From here on it grows by half, for all that ever was made counts.
        private static final int LARGE = 1 << 21;
        // What one call finds between two times of tidying is rarely more.
        private static final int ENOUGH = 1 << 18;
        private static final long RECORD = 1L << 20;
        // Where a block goes stands in its head, above what else a head tells.
        private static final int GOAL = 21;
        private static final long TOLD = (1L << GOAL) - 1;

        long[] words = new long[FIRST_SIZE];
        // 0 is no place, so that a pointer of 0 is none.
        int top = 1;

        boolean isRatherFull() {
            return words.length - top < Math.min(words.length / 4, ENOUGH);
        }

        void ensure(int room) {
            int size = words.length;
            if (size - top < room) {
                int larger = size < LARGE ? Math.min(size * 4, LARGE) : size + size / 2;
                words = Arrays.copyOf(words, Math.max(larger, top + room));
            }
        }

        /** Makes a row of that many values, to be filled. */
        int open(int count) {
            ensure(count + 1);
            int at = top;
            words[at] = count;
            top += count + 1;
            return at;
        }

        /** Makes a record of a value and as many things that were read, to be filled. */
        int openRecord(long value, int reads) {
            int at = open(1 + reads);
            words[at] = RECORD | 2L * reads;
            words[at + 1] = value;
            return at;
        }

        void setCircle(int record) {
            words[record] |= 1;
        }

        boolean isCircle(int record) {
            return (words[record] & 1) == 1;
        }

        int readsOf(int record) {
            return (int) (words[record] & RECORD - 1) >> 1;
        }

        int countOf(long word) {
            return word >> Words.TAG == Words.ROW_TAG ? (int) words[(int) (word & Words.LOW)] : 1;
        }

        int lengthOf(long text) {
            return Words.isRow(text) ? (int) words[Words.pointerOf(text)] : 0;
        }

        /** The value at a place of a row, from 0; what is no row has its value at 0. */
        long itemOf(long word, int place) {
            if (word >> Words.TAG != Words.ROW_TAG) {
                return place == 0 ? word : Words.EMPTY;
            }
            int at = (int) (word & Words.LOW);
            return place >= 0 && place < words[at] ? words[at + 1 + place] : Words.EMPTY;
        }

        boolean isSame(long one, long other) {
            if (one == other) {
                return true;
            }
            if (!Words.isRow(one) || !Words.isRow(other)) {
                return false;
            }
            int a = Words.pointerOf(one);
            int b = Words.pointerOf(other);
            for (int i = 0; i <= words[a]; i++) {
                if (words[a + i] != words[b + i]) {
                    return false;
                }
            }
            return true;
        }

        /** Ends a run that began with the top at a mark: of its rows only the one found stays. */
        long settle(int mark, long word) {
            top = mark;
            if (!Words.isRow(word) || Words.pointerOf(word) < mark) {
                return word;
            }
            int from = Words.pointerOf(word);
            int size = (int) words[from] + 1;
            System.arraycopy(words, from, words, mark, size);
            top = mark + size;
            return Words.ROW | mark;
        }

        /** Marks what stays: records that are referred to, and the rows that they refer to. */
        void markRecords(int[] record) {
            for (int i = 0; i < record.length; i++) {
                int at = record[i];
                if (at > 0 && goalOf(at) == 0) {
                    mark(at);
                    int last = at + 1 + readsOf(at);
                    for (int j = at + 1; j <= last; j++) {
                        long word = Words.unkeyed(words[j]);
                        if (Words.isRow(word)) {
                            mark(Words.pointerOf(word));
                        }
                    }
                }
            }
        }

        private void mark(int block) {
            words[block] |= 1L << GOAL;
        }

        private int goalOf(int block) {
            return (int) (words[block] >> GOAL);
        }

        /** How many words a block has, its head counted. */
        private int sizeOf(int block) {
            long told = words[block] & TOLD;
            return told >= RECORD ? 2 + readsOf(block) : 1 + (int) told;
        }

        /** Tells each block that stays where it goes, and the records among them where their rows go. */
        void tellGoals() {
            int goal = 1;
            for (int at = 1; at < top; at += Math.max(1, sizeOf(at))) {
                if (goalOf(at) > 0) {
                    words[at] = words[at] & TOLD | (long) goal << GOAL;
                    goal += sizeOf(at);
                }
            }
            for (int at = 1; at < top; at += Math.max(1, sizeOf(at))) {
                if (goalOf(at) > 0 && (words[at] & RECORD) != 0) {
                    leadRows(at);
                }
            }
        }

        private void leadRows(int record) {
            int last = record + 1 + readsOf(record);
            for (int i = record + 1; i <= last; i++) {
                long word = Words.unkeyed(words[i]);
                if (Words.isRow(word)) {
                    words[i] = Words.rekeyed(words[i], Words.ROW | goalOf(Words.pointerOf(word)));
                }
            }
        }

        void leadRecords(int[] record) {
            for (int i = 0; i < record.length; i++) {
                if (record[i] > 0) {
                    record[i] = goalOf(record[i]);
                }
            }
        }

        /** Lets the blocks that stay go where they were told, down to one another. */
        void slide() {
            int end = 1;
            int size = 1;
            for (int at = 1; at < top; at += Math.max(1, size)) {
                size = sizeOf(at);
                if (goalOf(at) > 0) {
                    words[at] &= TOLD;
                    System.arraycopy(words, at, words, end, size);
                    end += size;
                }
            }
            top = end;
            ensure(Math.min(words.length / 4, ENOUGH));
        }

        /** Marks the chains of all errors; only what stays is in the heap then. */
        void markChains(Chains chains) {
            for (int at = 1; at < top; at += Math.max(1, sizeOf(at))) {
                int last = at + sizeOf(at) - 1;
                for (int i = at + 1; i <= last; i++) {
                    long word = Words.unkeyed(words[i]);
                    if (Words.isError(word)) {
                        chains.mark(Words.chainOf(word));
                    }
                }
            }
        }

        /** Lets all errors have the chains that theirs are to become. */
        void leadChains(Chains chains) {
            for (int at = 1; at < top; at += Math.max(1, sizeOf(at))) {
                int last = at + sizeOf(at) - 1;
                for (int i = at + 1; i <= last; i++) {
                    long word = Words.unkeyed(words[i]);
                    if (Words.isError(word)) {
                        int goal = chains.goalOf(Words.chainOf(word));
                        words[i] = Words.rekeyed(words[i], Words.errorWith(Words.errorOf(word), goal));
                    }
                }
            }
        }
    }

    /** What was found, what is being found, and what the run at hand reads. */
    private static final class Desk {
        final State state;
        final Heap heap;
        // In place of numbers, where all is found from nothing.
        final long[] over = new long[CELLS];
        int now = 1;
        private final int[] checked = new int[ENTRIES];
        private boolean isFresh;
        private int freshNow;
        private final int[] freshChecked = new int[ENTRIES];
        private final int[] freshRecord = new int[ENTRIES];
        // What is being found has an order above 0; low is the first one that it leads back to.
        final int[] order = new int[ENTRIES];
        final int[] low = new int[ENTRIES];
        private final boolean[] isInCircle = new boolean[ENTRIES];
        int reader;
        int missing = -1;
        private final long[] reads = new long[THINGS];
        private final int[] readTurn = new int[THINGS];
        private int readCount;
        private int turn;
        private final int[] recordAhead = new int[ENTRIES];

        Desk(State state, Heap heap) {
            this.state = state;
            this.heap = heap;
        }

        void remember() {
            System.arraycopy(state.record, 0, recordAhead, 0, ENTRIES);
        }

        void takeBack() {
            System.arraycopy(recordAhead, 0, state.record, 0, ENTRIES);
            now++;
        }

        void beginFresh(int how) {
            isFresh = true;
            freshNow++;
            if (how == FROM_NOTHING) {
                Arrays.fill(over, Words.EMPTY);
            } else if (how >= 0 && how < SCENARIOS) {
                System.arraycopy(state.other, how * CELLS, over, 0, CELLS);
            }
        }

        void endFresh() {
            isFresh = false;
        }

        boolean isKept() {
            return !isFresh;
        }

        /** The content of a cell; of a held formula the last bit is 1. */
        long contentOf(int cell) {
            if (isFresh && over[cell] != Words.EMPTY) {
                return over[cell];
            }
            long word = state.content[cell];
            return word >= Words.FORMULA && state.held[cell] != Words.EMPTY ? word | 1 : word;
        }

        /** The cell itself, if it has a content, otherwise the next one above that has one, or the top one. */
        int sourceOf(int cell) {
            int at = cell;
            for (int i = 0; i < MOST_ROWS; i++) {
                if (contentOf(at) != Words.EMPTY || rowOf(at) == 0) {
                    break;
                }
                at -= MOST_COLUMNS;
            }
            return at;
        }

        boolean isCurrent(int entry) {
            return isFresh ? freshChecked[entry] == freshNow : checked[entry] == now;
        }

        int recordOf(int entry) {
            if (isFresh) {
                return freshChecked[entry] == freshNow ? freshRecord[entry] : 0;
            }
            return state.record[entry];
        }

        void enter(int entry, int record) {
            if (isFresh) {
                freshRecord[entry] = record;
                freshChecked[entry] = freshNow;
            } else {
                state.record[entry] = record;
                checked[entry] = now;
            }
        }

        /** What was found the last time, empty if nothing was. */
        long lastFound(int entry) {
            int record = recordOf(entry);
            return record > 0 ? heap.words[record + 1] : Words.EMPTY;
        }

        /** Whether what was found can be gone through; a circle can not, it is asked for anew. */
        boolean isGoable(int entry) {
            int record = recordOf(entry);
            return record > 0 && !heap.isCircle(record);
        }

        void open(int entry, int place) {
            order[entry] = place;
            low[entry] = place;
            isInCircle[entry] = false;
        }

        boolean isCircular(int entry) {
            return isInCircle[entry] || low[entry] < order[entry];
        }

        /** The value as the reader gets it; what is not at hand is missing, what is being found a circle. */
        long look(int entry) {
            if (order[entry] > 0) {
                low[reader] = Math.min(low[reader], order[entry]);
                isInCircle[entry] = true;
                // Who reads this is in the circle, too, and has its own error then.
                return Words.IN_CIRCLE;
            }
            boolean isAtHand = isFresh ? freshChecked[entry] == freshNow : checked[entry] == now;
            int record = isFresh ? freshRecord[entry] : state.record[entry];
            if (!isAtHand || record <= 0) {
                missing = entry;
                return Words.EMPTY;
            }
            return heap.words[record + 1];
        }

        /** What a name stands for, the body of a function, how many parts a note has. */
        int ownOf(int entry) {
            if (entry >= NOTE_ENTRY) {
                return state.partCount[entry - NOTE_ENTRY];
            }
            if (entry >= FUNCTION_ENTRY) {
                return state.body[(entry - FUNCTION_ENTRY) / (GIVENS * GIVENS)];
            }
            return entry >= NAME_ENTRY ? state.named[entry - NAME_ENTRY] : -1;
        }

        /** What a thing is now, for an entry that has read it. */
        long thingOf(int key, int entry) {
            if (key < ENTRIES) {
                return look(key);
            }
            if (key < HELD) {
                return contentOf(key - CONTENT);
            }
            if (key < CLOCK) {
                return state.held[key - HELD];
            }
            if (key == OWN) {
                return ownOf(entry);
            }
            if (key >= DRAW) {
                return state.drawOf(key - DRAW);
            }
            return key == CLOCK ? state.time : state.ticks;
        }

        void beginReads() {
            readCount = 0;
            turn++;
        }

        /** Notes what was read, where it is read first; what is found from nothing keeps nothing. */
        void add(int key, long word) {
            if (!isFresh && readTurn[key] != turn) {
                readTurn[key] = turn;
                reads[readCount] = (long) key << Words.KEY | word << Words.ABOVE >>> Words.ABOVE;
                readCount++;
            }
        }

        int writeRecord(long value) {
            int at = heap.openRecord(value, readCount);
            System.arraycopy(reads, 0, heap.words, at + 2, readCount);
            return at;
        }

        int writeCircle(int entry) {
            // The chain of one cell has the number of that cell and 1.
            long value = Words.IN_CIRCLE | (entry < CELLS ? entry + 1 : 0);
            if (entry >= NOTE_ENTRY) {
                int text = heap.open(2);
                heap.words[text + 1] = '!';
                heap.words[text + 2] = '0' + Words.CIRCLE;
                value = Words.ROW | text;
            }
            int at = heap.openRecord(value, 0);
            heap.setCircle(at);
            return at;
        }
    }

    /** Runs nodes. Where a value is not at hand it stops, to be run once more when that is found. */
    private static final class Runner {
        private final Desk desk;
        private final State state;
        private final Heap heap;
        private final Nodes nodes;
        private final Chains chains;
        private final Text text;
        private int given = -1;
        private int alsoGiven = -1;

        Runner(Desk desk, Nodes nodes, Chains chains) {
            this.desk = desk;
            this.state = desk.state;
            this.heap = desk.heap;
            this.nodes = nodes;
            this.chains = chains;
            this.text = new Text(desk.heap);
        }

        /** What GIVEN stands for in the run that follows; -1 elsewhere than in a function. */
        void give(int first, int second) {
            given = first;
            alsoGiven = second;
        }

        /** The weight of nodes keeps the levels at 40. */
        private long evaluate(int node, int level) {
            if (desk.missing >= 0 || level > HEAVIEST || node < 0 || node >= state.nodes) {
                return Words.EMPTY;
            }
            int kind = nodes.kind[node];
            if (kind == Nodes.RANGE || kind == Nodes.COLUMN) {
                return cellsOf(node);
            }
            if (kind >= Nodes.NUMBER) {
                return leafOf(node);
            }
            int sign = nodes.of[node];
            long first = evaluate(nodes.first[node], level + 1);
            if (kind == Nodes.WHEN) {
                long number = Words.taken(first);
                if (Words.isError(number)) {
                    return number;
                }
                return evaluate(number != 0 ? nodes.second[node] : nodes.third[node], level + 1);
            }
            if (kind == Nodes.ELSE) {
                return Words.isError(first) ? evaluate(nodes.second[node], level + 1) : first;
            }
            boolean isOfOne = kind == Nodes.FOLD || kind == Nodes.LIST;
            long second = isOfOne ? Words.EMPTY : evaluate(nodes.second[node], level + 1);
            if (desk.missing >= 0) {
                return Words.EMPTY;
            }
            switch (kind) {
                case Nodes.TWO:
                    return twoOf(sign, first, second);
                case Nodes.FOLD:
                    return foldOf(sign, first);
                case Nodes.LIST:
                    return sign == 0 ? countedTo(Words.taken(first)) : listOf(sign, first);
                case Nodes.ITEM:
                    return itemOf(first, second);
                case Nodes.PICK:
                    return pickOf(sign, first, second);
                case Nodes.CALL:
                    return callOf(sign, Words.taken(first), Words.taken(second));
                default:
                    return eachOf(sign, first, second);
            }
        }

        private long leafOf(int node) {
            int kind = nodes.kind[node];
            int of = nodes.of[node];
            if (kind == Nodes.NUMBER) {
                return nodes.number[node];
            }
            if (kind == Nodes.GIVEN) {
                if (given < 0) {
                    return Words.NOTHING;
                }
                return of == 0 ? given : alsoGiven;
            }
            if (kind == Nodes.CELL || kind == Nodes.SPILL) {
                if (!nodes.isThere(node)) {
                    return Words.TORN;
                }
                int cell = of * GRID_CELLS + state.refRow[node] * MOST_COLUMNS + state.refColumn[node];
                return readCell(cell, kind == Nodes.SPILL);
            }
            int key = keyOf(kind, of);
            long word = desk.thingOf(key, key);
            desk.add(key, word);
            if (kind == Nodes.LENGTH) {
                // What a note in a circle shows has 2 characters.
                return Words.isRow(word) ? heap.lengthOf(word) : 2;
            }
            return word;
        }

        private static int keyOf(int kind, int of) {
            switch (kind) {
                case Nodes.NAME:
                    return NAME_ENTRY + of;
                case Nodes.LENGTH:
                    return NOTE_ENTRY + of;
                case Nodes.TIME:
                    return CLOCK;
                case Nodes.TICKS:
                    return COUNTER;
                default:
                    return DRAW + of;
            }
        }

        /** The value of a cell, of a row its first one, unless it is wanted whole. */
        private long readCell(int cell, boolean isWhole) {
            int at = cell;
            long content = desk.contentOf(at);
            desk.add(CONTENT + at, content);
            for (int i = 1; i < MOST_ROWS && content == Words.EMPTY && rowOf(at) > 0; i++) {
                at -= MOST_COLUMNS;
                content = desk.contentOf(at);
                desk.add(CONTENT + at, content);
            }
            if (!Words.isFormula(content)) {
                return at == cell ? content : Words.EMPTY;
            }
            if (Words.isHeld(content)) {
                desk.add(HELD + at, state.held[at]);
                return at == cell ? state.held[at] : Words.EMPTY;
            }
            long word = desk.look(at);
            desk.add(at, word);
            return isWhole && at == cell ? word : heap.itemOf(word, rowOf(cell) - rowOf(at));
        }

        private long cellsOf(int node) {
            int grid = nodes.of[node];
            boolean isRange = nodes.kind[node] == Nodes.RANGE;
            if (isRange && !nodes.isThere(node)) {
                return Words.TORN;
            }
            int top = isRange ? state.refRow[node] : 0;
            int bottom = isRange ? state.refToRow[node] : state.rows[grid] - 1;
            int left = state.refColumn[node];
            int right = isRange ? nodes.third[node] : left;
            int row = heap.open((bottom - top + 1) * (right - left + 1));
            int at = row;
            for (int i = top; i <= bottom; i++) {
                for (int j = left; j <= right && desk.missing < 0; j++) {
                    at++;
                    heap.words[at] = readCell(grid * GRID_CELLS + i * MOST_COLUMNS + j, false);
                }
            }
            return Words.ROW | row;
        }

        private long twoOf(int sign, long first, long second) {
            if (Words.isError(first)) {
                return first;
            }
            if (Words.isError(second)) {
                return second;
            }
            boolean isFirstRow = Words.isRow(first);
            boolean isSecondRow = Words.isRow(second);
            if (!isFirstRow && !isSecondRow) {
                return Words.two(sign, first, second);
            }
            int count = heap.countOf(isFirstRow ? first : second);
            if (isFirstRow && isSecondRow && count != heap.countOf(second)) {
                return Words.UNLIKE;
            }
            int row = heap.open(count);
            for (int i = 0; i < count; i++) {
                long a = isFirstRow ? heap.itemOf(first, i) : first;
                long b = isSecondRow ? heap.itemOf(second, i) : second;
                heap.words[row + 1 + i] = Words.two(sign, a, b);
            }
            return Words.ROW | row;
        }

        /** An error stays, what is no row is an error; of a row the first error in it, or empty. */
        private long faultOf(long word, boolean isLookedInto) {
            if (!Words.isRow(word)) {
                return Words.isError(word) ? word : Words.NO_ROW;
            }
            int count = isLookedInto ? heap.countOf(word) : 0;
            for (int i = 0; i < count; i++) {
                if (Words.isError(heap.itemOf(word, i))) {
                    return heap.itemOf(word, i);
                }
            }
            return Words.EMPTY;
        }

        private long foldOf(int sign, long word) {
            long fault = faultOf(word, true);
            if (fault != Words.EMPTY) {
                return fault;
            }
            long sum = 0;
            int numbers = 0;
            long greatest = -Words.MOST;
            long least = Words.MOST;
            for (int i = 0; i < heap.countOf(word); i++) {
                long item = heap.itemOf(word, i);
                if (Words.isNumber(item)) {
                    numbers++;
                    sum += item;
                    greatest = Math.max(greatest, item);
                    least = Math.min(least, item);
                }
            }
            if (sign == 0) {
                return Words.ranged(sum);
            }
            if (sign == 1) {
                return numbers;
            }
            if (numbers == 0) {
                return Words.NOTHING;
            }
            return sign == 2 ? greatest : least;
        }

        private long listOf(int sign, long word) {
            long fault = faultOf(word, sign != 1);
            if (fault != Words.EMPTY) {
                return fault;
            }
            int count = heap.countOf(word);
            int row = heap.open(count);
            int size = 0;
            for (int i = 0; i < count; i++) {
                long item = heap.itemOf(word, sign == 1 ? count - 1 - i : i);
                boolean isListed = sign == 1 || Words.isNumber(item) && (sign == 2 || item > 0);
                if (isListed) {
                    size++;
                    heap.words[row + size] = item;
                }
            }
            heap.words[row] = size;
            if (size == 0) {
                return Words.NOTHING;
            }
            if (sign == 2) {
                sortNumbers(row + 1, size);
            }
            return Words.ROW | row;
        }

        private long countedTo(long number) {
            if (Words.isError(number)) {
                return number;
            }
            if (number < 1 || number > 20) {
                return Words.OUT_OF_RANGE;
            }
            int row = heap.open((int) number);
            for (int i = 1; i <= number; i++) {
                heap.words[row + i] = i;
            }
            return Words.ROW | row;
        }

        private void sortNumbers(int from, int count) {
            for (int i = from + 1; i < from + count; i++) {
                long number = heap.words[i];
                int at = i;
                for (; at > from && heap.words[at - 1] > number; at--) {
                    heap.words[at] = heap.words[at - 1];
                }
                heap.words[at] = number;
            }
        }

        private long itemOf(long first, long second) {
            long fault = faultOf(first, false);
            if (fault != Words.EMPTY) {
                return fault;
            }
            long place = Words.taken(second);
            if (Words.isError(place)) {
                return place;
            }
            if (place < 1 || place > heap.countOf(first)) {
                return Words.NOTHING;
            }
            return heap.itemOf(first, (int) place - 1);
        }

        private long pickOf(int grid, long first, long second) {
            long row = Words.taken(first);
            if (Words.isError(row)) {
                return row;
            }
            long column = Words.taken(second);
            if (Words.isError(column)) {
                return column;
            }
            if (row < 0 || row >= state.rows[grid] || column < 0 || column >= state.columns[grid]) {
                return Words.TORN;
            }
            return readCell(grid * GRID_CELLS + (int) row * MOST_COLUMNS + (int) column, false);
        }

        private long callOf(int function, long first, long second) {
            if (Words.isError(first)) {
                return first;
            }
            if (Words.isError(second)) {
                return second;
            }
            if (first < 0 || first >= GIVENS || second < 0 || second >= GIVENS) {
                return Words.OUT_OF_RANGE;
            }
            int entry = FUNCTION_ENTRY + (function * GIVENS + (int) first) * GIVENS + (int) second;
            long word = desk.look(entry);
            desk.add(entry, word);
            return word;
        }

        private long eachOf(int function, long first, long second) {
            long fault = faultOf(first, false);
            if (fault != Words.EMPTY) {
                return fault;
            }
            long number = Words.taken(second);
            if (Words.isError(number)) {
                return number;
            }
            int count = heap.countOf(first);
            int row = heap.open(count);
            for (int i = 0; i < count && desk.missing < 0; i++) {
                long word = callOf(function, Words.taken(heap.itemOf(first, i)), number);
                heap.words[row + 1 + i] = Words.isRow(word) ? Words.NO_ROW : word;
            }
            return Words.ROW | row;
        }

        /** What a node found, as the value of the cell with that formula. */
        long spilled(int cell, long word) {
            if (desk.missing >= 0) {
                return Words.EMPTY;
            }
            int count = heap.countOf(word);
            // Of what is found from nothing nobody asks through which cells it came.
            boolean isPassed = desk.isKept();
            if (count == 1 || !hasRoom(cell, count)) {
                long one = count == 1 ? heap.itemOf(word, 0) : Words.BLOCKED;
                return isPassed ? chains.pass(cell, one) : one;
            }
            int row = heap.open(count);
            for (int i = 0; i < count; i++) {
                long item = heap.itemOf(word, i);
                heap.words[row + 1 + i] = isPassed ? chains.pass(cell, item) : item;
            }
            return Words.ROW | row;
        }

        /** A row that is too long for its grid reads the cells below, too, as far as they are there. */
        private boolean hasRoom(int cell, int count) {
            int room = state.rows[gridOf(cell)] - rowOf(cell);
            for (int i = 1; i < Math.min(count, room); i++) {
                int below = cell + i * MOST_COLUMNS;
                long content = desk.contentOf(below);
                desk.add(CONTENT + below, content);
                if (content != Words.EMPTY) {
                    return false;
                }
            }
            return count <= room;
        }

        /** The characters of a note, as a row of their codes. */
        long textOf(int note) {
            text.begin();
            for (int i = 0; i < state.partCount[note] && desk.missing < 0; i++) {
                int part = state.parts[note * MOST_PARTS + i];
                if (part == State.TORN_PART) {
                    text.append(Words.TORN, 0);
                } else if (part < State.TORN_PART) {
                    text.repeat('a', part);
                } else {
                    int shown = part - State.SHOWN;
                    text.append(readCell(shown / FORMATS, false), shown % FORMATS);
                }
            }
            return text.end();
        }
    }

    /** Writes the characters of a note into a row of the heap. */
    private static final class Text {
        // Eight parts of at most 22 characters: 16 digits, 5 commas and a sign.
        private static final int LONGEST = MOST_PARTS * 22;
        private static final int WIDTH = 6;

        private final Heap heap;
        private int row;
        private int count;

        Text(Heap heap) {
            this.heap = heap;
        }

        void begin() {
            row = heap.open(LONGEST);
            count = 0;
        }

        long end() {
            heap.words[row] = count;
            return Words.ROW | row;
        }

        void repeat(int character, int times) {
            for (int i = 0; i < times && count < LONGEST; i++) {
                count++;
                heap.words[row + count] = character;
            }
        }

        void append(long word, int format) {
            if (Words.isError(word)) {
                repeat('!', 1);
                repeat('0' + Words.errorOf(word), 1);
            } else if (Words.isNumber(word)) {
                appendNumber(word, format);
            }
        }

        private void appendNumber(long number, int format) {
            long size = Math.abs(number);
            long unit = 1;
            int digits = 1;
            for (; digits < 18 && size / unit >= 10; digits++) {
                unit *= 10;
            }
            int sign = number < 0 ? 1 : 0;
            if (format == 2) {
                repeat(' ', WIDTH - digits - sign);
            }
            repeat('-', sign);
            for (int left = digits - 1; left >= 0; left--) {
                repeat('0' + (int) (size / unit % 10), 1);
                if (format == 1 && left > 0 && left % 3 == 0) {
                    repeat(',', 1);
                }
                unit = unit >= 10 ? unit / 10 : 1;
            }
        }
    }

    /**
     * Finds values, each by what it reads, which is found ahead of it: a stack of its own instead of
     * recursion, for what needs one another can be hundreds deep. Circles are what leads back to
     * one another (by Tarjan's algorithm), so that it counts for nothing where one begins to ask.
     */
    private static final class Finder {
        private static final int TURNS = 1000000;
        private static final int ANEW = -1;

        private final Desk desk;
        private final Heap heap;
        private final State state;
        private final Runner runner;
        private final int[] stack = new int[ENTRIES];
        private final int[] at = new int[ENTRIES];
        private int depth;
        private final int[] pending = new int[ENTRIES];
        private int pendingCount;
        private int opened;
        int runCount;
        int callCount;
        private int runCountAhead;
        private int callCountAhead;

        Finder(Desk desk, Runner runner) {
            this.desk = desk;
            this.heap = desk.heap;
            this.state = desk.state;
            this.runner = runner;
        }

        /** Remembers what is found, for a call that may throw only when it has asked. */
        void remember() {
            desk.remember();
            runCountAhead = runCount;
            callCountAhead = callCount;
        }

        /** Takes back what was found since remember(): a call that throws changes nothing. */
        void takeBack() {
            desk.takeBack();
            runCount = runCountAhead;
            callCount = callCountAhead;
        }

        void find(int entry) {
            if (desk.isCurrent(entry)) {
                return;
            }
            opened = 0;
            push(entry);
            for (int i = 0; i < TURNS && depth > 0; i++) {
                int top = stack[depth - 1];
                desk.reader = top;
                desk.missing = -1;
                if (at[depth - 1] == ANEW) {
                    runAnew(top);
                } else {
                    goThrough(top);
                }
                if (desk.missing >= 0) {
                    push(desk.missing);
                }
            }
        }

        private void push(int entry) {
            if (depth >= ENTRIES || pendingCount >= ENTRIES) {
                return;
            }
            stack[depth] = entry;
            at[depth] = desk.isGoable(entry) ? 0 : ANEW;
            depth++;
            pending[pendingCount] = entry;
            pendingCount++;
            opened++;
            desk.open(entry, opened);
        }

        /** Goes through what was read, from where it stopped, up to the first thing that has changed. */
        private void goThrough(int entry) {
            int record = desk.recordOf(entry);
            int count = heap.readsOf(record);
            for (int i = at[depth - 1]; i < count; i++) {
                long read = heap.words[record + 2 + i];
                long word = desk.thingOf(Words.keyOf(read), entry);
                if (desk.missing >= 0) {
                    at[depth - 1] = i;
                    return;
                }
                if (!heap.isSame(word, Words.unkeyed(read))) {
                    at[depth - 1] = ANEW;
                    return;
                }
            }
            close(entry, desk.isCircular(entry) ? desk.writeCircle(entry) : record);
        }

        private void runAnew(int entry) {
            int mark = heap.top;
            desk.beginReads();
            runner.give(-1, -1);
            long word;
            if (entry < CELLS) {
                word = runner.evaluate(Words.nodeOf(state.content[entry]), 0);
                word = runner.spilled(entry, word);
            } else {
                int own = desk.ownOf(entry);
                desk.add(OWN, own);
                if (entry >= NOTE_ENTRY) {
                    word = runner.textOf(entry - NOTE_ENTRY);
                } else {
                    giveTo(entry);
                    word = own < 0 ? Words.NOTHING : runner.evaluate(own, 0);
                }
            }
            if (desk.missing >= 0) {
                heap.top = mark;
                return;
            }
            if (desk.isCircular(entry)) {
                heap.top = mark;
                close(entry, desk.writeCircle(entry));
                return;
            }
            count(entry);
            close(entry, desk.writeRecord(heap.settle(mark, word)));
        }

        private void giveTo(int entry) {
            if (entry >= FUNCTION_ENTRY) {
                int givens = (entry - FUNCTION_ENTRY) % (GIVENS * GIVENS);
                runner.give(givens / GIVENS, givens % GIVENS);
            }
        }

        private void count(int entry) {
            if (!desk.isKept()) {
                return;
            }
            if (entry < CELLS) {
                runCount++;
            } else if (entry >= FUNCTION_ENTRY && entry < NOTE_ENTRY && desk.ownOf(entry) >= 0) {
                callCount++;
            }
        }

        /** Ends the finding of an entry; those of a circle stay pending until all of it is known. */
        private void close(int entry, int record) {
            desk.enter(entry, record);
            depth--;
            if (desk.low[entry] < desk.order[entry]) {
                if (depth > 0) {
                    int below = stack[depth - 1];
                    desk.low[below] = Math.min(desk.low[below], desk.low[entry]);
                }
                return;
            }
            for (int i = pendingCount; i > 0; i--) {
                pendingCount--;
                int ended = pending[pendingCount];
                desk.order[ended] = 0;
                if (ended == entry) {
                    break;
                }
            }
        }
    }

    /** Takes contents elsewhere, and what refers to them: CELL, SPILL and RANGE nodes, notes, scenarios. */
    private static final class Mover {
        private static final int LOST = -1;

        private final State state;
        private final Nodes nodes;
        // Where each row goes, and in which order rows are sorted.
        private final int[] goal = new int[MOST_ROWS];
        private final int[] line = new int[MOST_ROWS];
        private final long[] before = new long[GRID_CELLS];

        Mover(State state, Nodes nodes) {
            this.state = state;
            this.nodes = nodes;
        }

        void insertRow(int grid, int row) {
            for (int i = 0; i < MOST_ROWS; i++) {
                goal[i] = i < row ? i : i + 1;
            }
            carryRows(grid);
            state.rows[grid]++;
            for (int i = 0; i < state.nodes; i++) {
                boolean isRange = nodes.isRangeOf(i, grid);
                if (!isRange && !nodes.isCellOf(i, grid)) {
                    continue;
                }
                if (state.refToRow[i] >= row) {
                    state.refToRow[i]++;
                }
                if (state.refRow[i] >= row) {
                    state.refRow[i]++;
                }
            }
        }

        int removeRow(int grid, int row) {
            for (int i = 0; i < MOST_ROWS; i++) {
                goal[i] = i < row ? i : i - 1;
            }
            goal[row] = LOST;
            carryRows(grid);
            state.rows[grid]--;
            int tornNow = 0;
            for (int i = 0; i < state.nodes; i++) {
                if (!nodes.isRangeOf(i, grid) && !nodes.isCellOf(i, grid)) {
                    continue;
                }
                if (state.refRow[i] == row && state.refToRow[i] == row) {
                    state.torn[i] = true;
                    tornNow++;
                    continue;
                }
                if (state.refToRow[i] >= row) {
                    state.refToRow[i]--;
                }
                if (state.refRow[i] > row) {
                    state.refRow[i]--;
                }
            }
            return tornNow;
        }

        int sortRows(int grid, int row, int to, int column) {
            for (int i = 0; i < MOST_ROWS; i++) {
                goal[i] = i;
                line[i] = i;
            }
            int base = grid * GRID_CELLS + column;
            for (int i = row + 1; i <= to; i++) {
                int at = i;
                for (; at > row && isBehind(base, line[at - 1], i); at--) {
                    line[at] = line[at - 1];
                }
                line[at] = i;
            }
            int elsewhere = 0;
            for (int i = row; i <= to; i++) {
                goal[line[i]] = i;
                if (line[i] != i) {
                    elsewhere++;
                }
            }
            carryRows(grid);
            for (int i = 0; i < state.nodes; i++) {
                if (nodes.isCellOf(i, grid) && state.refRow[i] < state.rows[grid]) {
                    state.refRow[i] = goal[state.refRow[i]];
                    state.refToRow[i] = state.refRow[i];
                }
            }
            return elsewhere;
        }

        /** Whether a row must go behind another one that stood below it. */
        private boolean isBehind(int base, int row, int other) {
            long one = state.content[base + row * MOST_COLUMNS];
            long two = state.content[base + other * MOST_COLUMNS];
            return Words.isNumber(two) && (!Words.isNumber(one) || one > two);
        }

        private void carryRows(int grid) {
            int base = grid * GRID_CELLS;
            carry(state.content, base, state.rows[grid]);
            carry(state.held, base, state.rows[grid]);
            for (int i = 0; i < SCENARIOS; i++) {
                carry(state.other, i * CELLS + base, state.rows[grid]);
            }
            for (int i = 0; i < MOST_NOTES * MOST_PARTS; i++) {
                if (state.parts[i] < State.SHOWN) {
                    continue;
                }
                int cell = (state.parts[i] - State.SHOWN) / FORMATS;
                if (gridOf(cell) == grid) {
                    int row = goal[rowOf(cell)];
                    lead(i, row == LOST ? LOST : base + row * MOST_COLUMNS + columnOf(cell));
                }
            }
        }

        private void carry(long[] words, int base, int rows) {
            System.arraycopy(words, base, before, 0, GRID_CELLS);
            Arrays.fill(words, base, base + GRID_CELLS, Words.EMPTY);
            for (int i = 0; i < rows; i++) {
                if (goal[i] != LOST && goal[i] < MOST_ROWS) {
                    System.arraycopy(before, i * MOST_COLUMNS, words, base + goal[i] * MOST_COLUMNS, MOST_COLUMNS);
                }
            }
        }

        /** Lets a part of a note show another cell, or tears it. */
        private void lead(int part, int cell) {
            int format = (state.parts[part] - State.SHOWN) % FORMATS;
            state.parts[part] = cell == LOST ? State.TORN_PART : State.SHOWN + cell * FORMATS + format;
        }

        int moveContent(int from, int to) {
            moveWord(state.content, from, to);
            moveWord(state.held, from, to);
            for (int i = 0; i < SCENARIOS; i++) {
                moveWord(state.other, i * CELLS + from, i * CELLS + to);
            }
            for (int i = 0; i < MOST_NOTES * MOST_PARTS; i++) {
                int shown = state.parts[i] < State.SHOWN ? LOST : (state.parts[i] - State.SHOWN) / FORMATS;
                if (shown == to) {
                    lead(i, LOST);
                } else if (shown == from) {
                    lead(i, to);
                }
            }
            int tornNow = 0;
            for (int i = 0; i < state.nodes; i++) {
                if (!nodes.isCellOf(i, gridOf(from))) {
                    continue;
                }
                int cell = gridOf(from) * GRID_CELLS + state.refRow[i] * MOST_COLUMNS + state.refColumn[i];
                if (cell == to) {
                    state.torn[i] = true;
                    tornNow++;
                } else if (cell == from) {
                    nodes.refer(i, rowOf(to), columnOf(to), rowOf(to));
                }
            }
            return tornNow;
        }

        private void moveWord(long[] words, int from, int to) {
            words[to] = words[from];
            words[from] = Words.EMPTY;
        }
    }
}
