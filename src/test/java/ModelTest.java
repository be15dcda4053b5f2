import java.lang.reflect.Field;
import java.lang.reflect.InvocationTargetException;
import java.lang.reflect.Method;
import java.util.ArrayList;
import java.util.Arrays;
import java.util.HashMap;
import java.util.List;
import java.util.Map;
import java.util.Random;

/** Holds NoteDocument to PlainDocument by random runs of calls: the same answers, the same exceptions. */
public final class ModelTest {
    private static final Map<String, Method> OURS = methods(NoteDocument.class);
    private static final Map<String, Method> PLAIN = methods(PlainDocument.class);

    private static Map<String, Method> methods(Class<?> type) {
        Map<String, Method> map = new HashMap<>();
        for (Method m : type.getDeclaredMethods()) {
            if (java.lang.reflect.Modifier.isPublic(m.getModifiers())) {
                m.setAccessible(true);
                map.put(m.getName(), m);
            }
        }
        return map;
    }

    private final Random random;
    private final NoteDocument ours = new NoteDocument();
    private final PlainDocument plain = new PlainDocument();
    private final List<String> log = new ArrayList<>();
    private final List<int[]> grids = new ArrayList<>();
    private int nodes;
    private int notes;
    private int calls;
    private boolean isFine = true;
    private final boolean isWild;
    private final boolean isFilled;
    private final boolean isChained;
    private final int most;

    private ModelTest(long seed) {
        random = new Random(seed);
        isWild = random.nextInt(4) == 0;
        isFilled = random.nextInt(3) == 0;
        most = random.nextInt(3) == 0 ? 512 : 60 + random.nextInt(200);
        isChained = random.nextInt(3) == 0;
    }

    /** Fills the room where rows and what was found stand, so that the next call must tidy it. */
    private void fillRoom() {
        try {
            Field field = NoteDocument.class.getDeclaredField("heap");
            field.setAccessible(true);
            Object heap = field.get(ours);
            Field words = heap.getClass().getDeclaredField("words");
            words.setAccessible(true);
            Field top = heap.getClass().getDeclaredField("top");
            top.setAccessible(true);
            Method open = heap.getClass().getDeclaredMethod("open", int.class);
            open.setAccessible(true);
            int room = ((long[]) words.get(heap)).length;
            int free = room - top.getInt(heap);
            open.invoke(heap, Math.max(0, free - room / 5));
        } catch (ReflectiveOperationException e) {
            throw new AssertionError(e);
        }
    }

    /** Makes chains of cells that no error has, until the next call must throw them away. */
    private void fillChains() {
        try {
            Field field = NoteDocument.class.getDeclaredField("chains");
            field.setAccessible(true);
            Object chains = field.get(ours);
            Method isRatherFull = chains.getClass().getDeclaredMethod("isRatherFull");
            isRatherFull.setAccessible(true);
            Method pass = chains.getClass().getDeclaredMethod("pass", int.class, long.class);
            pass.setAccessible(true);
            long error = 1L << 50 | 1L << 40;
            for (int i = 0; i < 100000 && !(boolean) isRatherFull.invoke(chains); i++) {
                int cell = random.nextInt(200);
                error = (long) pass.invoke(chains, cell, error);
                if (random.nextInt(20) == 0) {
                    error = 1L << 50 | 1L << 40;
                }
            }
        } catch (ReflectiveOperationException e) {
            throw new AssertionError(e);
        }
    }

    private static Object answer(Method method, Object on, Object... args) {
        try {
            return method.invoke(on, args);
        } catch (InvocationTargetException e) {
            if (e.getCause() instanceof StackOverflowError) {
                throw (StackOverflowError) e.getCause();
            }
            return e.getCause().getClass().getName();
        } catch (IllegalAccessException e) {
            throw new AssertionError(e);
        }
    }

    private Object call(String name, Object... args) {
        if (!isFine || calls >= most) {
            return null;
        }
        calls++;
        if (isFilled) {
            fillRoom();
        }
        if (isChained && calls % 3 == 0) {
            fillChains();
        }
        Object one = answer(OURS.get(name), ours, args);
        Object other = answer(PLAIN.get(name), plain, args);
        log.add(name + Arrays.toString(args) + " = " + one);
        if (one == null ? other != null : !one.equals(other)) {
            isFine = false;
            log.add("due is " + other);
        }
        return one;
    }

    private int upTo(int most) {
        return random.nextInt(most + 1);
    }

    private int grid() {
        return isWild && random.nextInt(30) == 0 ? random.nextInt(7) - 2 : random.nextInt(Math.max(1, grids.size()));
    }

    private int row(int grid) {
        if (isWild && random.nextInt(30) == 0) {
            return random.nextInt(14) - 2;
        }
        int rows = grid >= 0 && grid < grids.size() ? ours.rows(grid) : 1;
        return random.nextInt(rows);
    }

    private int column(int grid) {
        if (isWild && random.nextInt(30) == 0) {
            return random.nextInt(8) - 2;
        }
        return grid >= 0 && grid < grids.size() ? random.nextInt(grids.get(grid)[1]) : 0;
    }

    private int node() {
        if (isWild && random.nextInt(30) == 0) {
            return random.nextInt(155) - 3;
        }
        int back = random.nextInt(3) == 0 ? 6 : nodes;
        return nodes == 0 ? 0 : Math.max(0, nodes - 1 - random.nextInt(Math.max(1, back)));
    }

    private long small() {
        switch (random.nextInt(12)) {
            case 0:
                return random.nextInt(2000) - 1000;
            case 1:
                return random.nextBoolean() ? PlainDocument.MOST : -PlainDocument.MOST;
            case 2:
                return random.nextLong() % (PlainDocument.MOST * (isWild ? 2 : 1));
            default:
                return random.nextInt(9) - 2;
        }
    }

    private void makeGrid() {
        int rows = isWild && random.nextInt(8) == 0 ? upTo(12) : 1 + upTo(random.nextInt(3) == 0 ? 9 : 4);
        int columns = isWild && random.nextInt(8) == 0 ? upTo(7) : 1 + upTo(random.nextInt(3) == 0 ? 4 : 2);
        if (call("grid", rows, columns) instanceof Integer) {
            grids.add(new int[] {rows, columns});
        }
    }

    private void made(Object answer) {
        if (answer instanceof Integer) {
            nodes = (Integer) answer + 1;
        }
    }

    private void makeNode() {
        int g = grid();
        int r = row(g);
        int c = column(g);
        switch (random.nextInt(20)) {
            case 0:
            case 1:
                made(call("number", small()));
                break;
            case 2:
            case 3:
            case 4:
            case 5:
                made(call("cell", g, r, c, random.nextInt(3) == 0));
                break;
            case 6:
            case 7:
                made(call("range", g, Math.min(r, row(g)), Math.min(c, column(g)), r, c));
                break;
            case 8:
            case 9:
            case 10:
                int kind = random.nextInt(7);
                int[] most = {0, 5, 1, 2, 0, 0, 9};
                int of = kind == 0 ? 10 * g + c : upTo(most[kind]);
                made(call("leaf", kind, isWild && random.nextInt(10) == 0 ? of + random.nextInt(9) - 4 : of));
                break;
            case 11:
                made(call("when", node(), node(), node()));
                break;
            default:
                int which = random.nextInt(10) < 4 ? 0 : random.nextInt(8);
                int sign = which == 0 ? upTo(9) : which == 4 ? grid() : upTo(3);
                if (isWild && random.nextInt(15) == 0) {
                    sign += random.nextInt(9) - 4;
                    which += random.nextInt(5) - 2;
                }
                made(call("node", which, sign, node(), node()));
        }
    }

    /** A node such as people make them: lists, what is done with them, references, functions. */
    private int makeUseful(int deep) {
        int g = grid();
        int kind = deep <= 0 ? random.nextInt(5) : random.nextInt(16);
        Object made;
        switch (kind) {
            case 0:
                made = call("number", (long) upTo(4));
                break;
            case 1:
            case 2:
                made = call("cell", g, row(g), column(g), random.nextInt(3) == 0);
                break;
            case 3:
                int r = row(g);
                int c = column(g);
                made = call("range", g, Math.min(r, row(g)), Math.min(c, column(g)), r, c);
                break;
            case 4:
                int leaf = random.nextInt(7);
                int[] most = {0, 2, 1, notes - 1, 0, 0, 2};
                made = call("leaf", leaf, leaf == 0 ? 10 * g + column(g) : upTo(Math.max(0, most[leaf])));
                break;
            case 5:
            case 6:
                made = call("node", 0, upTo(9), makeUseful(deep - 1), makeUseful(deep - 1));
                break;
            case 7:
                made = call("node", 1, upTo(3), makeUseful(deep - 1), 0);
                break;
            case 8:
            case 9:
                made = call("node", 2, random.nextBoolean() ? 0 : upTo(3), makeUseful(deep - 1), 0);
                break;
            case 10:
                made = call("node", 3, 0, makeUseful(deep - 1), makeUseful(0));
                break;
            case 11:
                made = call("node", 4, g, makeUseful(deep - 1), makeUseful(0));
                break;
            case 12:
                made = call("node", 5 + upTo(1), upTo(1), makeUseful(deep - 1), makeUseful(0));
                break;
            case 13:
            case 14:
                made = call("node", 7, 0, makeUseful(deep - 1), makeUseful(deep - 1));
                break;
            default:
                made = call("when", makeUseful(deep - 1), makeUseful(deep - 1), makeUseful(0));
        }
        made(made);
        return made instanceof Integer ? (Integer) made : node();
    }

    /** Many cells with contents, by which spills, errors and circles come about. */
    private void makeDense() {
        for (int g = 0; g < grids.size(); g++) {
            for (int i = ours.rows(g) * grids.get(g)[1] / 2; i >= 0; i--) {
                if (random.nextInt(4) == 0) {
                    call("set", g, row(g), column(g), small());
                } else {
                    call("put", g, row(g), column(g), random.nextInt(4) == 0 ? node() : makeUseful(3));
                }
            }
        }
        for (int i = 0; i < 2; i++) {
            call("define", i, makeUseful(2));
            call("name", i, makeUseful(2));
        }
    }

    private void change() {
        int g = grid();
        int r = row(g);
        int c = column(g);
        switch (random.nextInt(30)) {
            case 0:
            case 1:
            case 2:
            case 3:
            case 4:
                call("set", g, r, c, small());
                break;
            case 5:
            case 6:
            case 7:
            case 8:
            case 9:
                call("put", g, r, c, node());
                break;
            case 10:
                call("put", g, r, c, makeUseful(2));
                break;
            case 11:
                call("erase", g, r, c);
                break;
            case 12:
            case 13:
                call("hold", g, r, c, small());
                break;
            case 14:
                call("rounds", isWild ? upTo(52) : 1 + upTo(8));
                break;
            case 15:
                call("name", isWild ? upTo(6) : upTo(5), random.nextInt(8) == 0 ? -1 : node());
                break;
            case 16:
            case 17:
                call("define", isWild ? upTo(4) : upTo(3), random.nextInt(8) == 0 ? -1 : node());
                break;
            case 18:
                call("say", upTo(2), isWild ? upTo(22) : 1 + upTo(5));
                break;
            case 19:
                call("show", upTo(2), g, r, c, upTo(isWild ? 3 : 2));
                break;
            case 20:
                call("tick", upTo(isWild ? 1100000 : 1000000), upTo(50));
                break;
            default:
                moveAbout(g, r, c);
        }
    }

    private void moveAbout(int g, int r, int c) {
        switch (random.nextInt(12)) {
            case 0:
                call("insert", g, isWild ? upTo(11) - 1 : r + upTo(1));
                break;
            case 1:
                call("remove", g, r);
                break;
            case 2:
                call("move", g, r, c, row(g), column(g));
                break;
            case 3:
                call("sort", g, Math.min(r, row(g)), r, c);
                break;
            case 4:
            case 5:
                call("overlay", isWild ? upTo(3) : upTo(2), g, r, c, small());
                break;
            case 6:
                call("drop", upTo(2));
                break;
            case 7:
                for (int i = upTo(5); i >= 0; i--) {
                    call("undo");
                    call("calculate");
                }
                break;
            case 8:
                call("undo");
                break;
            case 10:
                call("setWay", isWild ? upTo(3) : random.nextInt(2) * upTo(2));
                break;
            default:
                if (notes < 3) {
                    notes++;
                    call("note");
                }
        }
    }

    private void lookAtAll() {
        String[] names = {"value", "spills", "through", "cause", "valueFromNothing"};
        String name = names[random.nextInt(names.length)];
        for (int g = 0; g < grids.size(); g++) {
            for (int r = 0; r < ours.rows(g); r++) {
                for (int c = 0; c < grids.get(g)[1]; c++) {
                    call(name, g, r, c);
                }
            }
        }
    }

    private void look() {
        int g = grid();
        int r = row(g);
        int c = column(g);
        String[] names = {"kind", "value", "spills", "through", "cause", "kindFromNothing", "valueFromNothing"};
        switch (random.nextInt(14)) {
            case 0:
                call("calculate");
                break;
            case 1:
                if (random.nextBoolean()) {
                    call("length", upTo(2));
                }
                call("letter", upTo(2), upTo(20));
                break;
            case 2:
                call(random.nextBoolean() ? "kindIn" : "valueIn", upTo(2), g, r, c);
                break;
            case 3:
                call("seek", g, 10 * r + c, 10 * row(g) + column(g), small(), upTo(20) - 10, upTo(isWild ? 41 : 12));
                break;
            case 4:
                call("torn");
                call("rows", g);
                break;
            default:
                call(names[random.nextInt(names.length)], g, r, c);
        }
        call("runs");
        call("calls");
    }

    /** Any call with any arguments. */
    private void reckless() {
        List<String> names = new ArrayList<>(PLAIN.keySet());
        names.sort(null);
        String name = names.get(random.nextInt(names.size()));
        Class<?>[] types = PLAIN.get(name).getParameterTypes();
        int[] edges = {-1, 0, 0, 0, 1, 1, 2, 3, 4, 5, 9, 10, 11, 20, 40, 41, 50, 149, 150, 1000, 1000001,
            Integer.MIN_VALUE, Integer.MAX_VALUE};
        Object[] args = new Object[types.length];
        for (int i = 0; i < args.length; i++) {
            int edge = edges[random.nextInt(random.nextBoolean() ? 10 : edges.length)];
            if (types[i] == boolean.class) {
                args[i] = random.nextBoolean();
            } else if (types[i] == long.class) {
                args[i] = random.nextInt(10) == 0 ? random.nextLong() : (Long) (long) edge;
            } else {
                args[i] = edge;
            }
        }
        Object answer = call(name, args);
        if (name.equals("grid") && answer instanceof Integer) {
            grids.add(new int[] {(Integer) args[0], (Integer) args[1]});
        }
        if (name.equals("note") && answer instanceof Integer) {
            notes++;
        }
        if (List.of("number", "cell", "range", "leaf", "node", "when").contains(name)) {
            made(answer);
        }
    }

    /** Many rows that spill, and what reads them: found anew by each change, so that the room must be tidied. */
    private void makeRich() {
        call("grid", 10, 5);
        grids.add(new int[] {10, 5});
        made(call("cell", 0, 0, 0, false));
        made(call("number", 4L));
        made(call("node", 2, 0, 1, 0));
        made(call("node", 0, 0, 2, 0));
        for (int i = 1; i < 4; i++) {
            call("put", 0, i, i, 3);
            int spill = nodes;
            made(call("cell", 0, i, i, true));
            made(call("node", 2, 1, spill, 0));
            call("name", i, nodes - 1);
            made(call("leaf", 1, i));
            made(call("node", 1, i % 3, nodes - 1, 0));
            call("put", 0, 8, i, nodes - 1);
            call("define", i, spill);
            made(call("node", 5, i, 1, 1));
            made(call("node", 1, 2, nodes - 1, 0));
            call("put", 0, 9, i, nodes - 1);
        }
        int held = nodes;
        made(call("cell", 0, 7, 0, false));
        made(call("node", 0, 0, held, 1));
        call("put", 0, 7, 0, nodes - 1);
        call("put", 0, 0, 0, held);
        call("hold", 0, 7, 0, 0L);
        call("setWay", 1);
    }

    /** Changes that leave most of a rich document as it is. */
    private void stir() {
        switch (random.nextInt(8)) {
            case 0:
                call("set", 0, 5 + upTo(1), upTo(4), small());
                break;
            case 1:
                call("erase", 0, 5 + upTo(1), upTo(4));
                break;
            case 2:
            case 3:
                call("rounds", 1 + upTo(5));
                break;
            case 4:
                call("tick", upTo(9), upTo(9));
                break;
            case 5:
                call("undo");
                break;
            default:
                look();
        }
        call("runs");
    }

    /** Cells that each refer to the one ahead of it: an error in one comes through all behind it. */
    private void makeChain() {
        call("grid", 10, 5);
        grids.add(new int[] {10, 5});
        made(call("leaf", 2, 0));
        for (int i = 0; i < 49; i++) {
            made(call("cell", 0, i / 5, i % 5, false));
            call("put", 0, (i + 1) / 5, (i + 1) % 5, i + 1);
        }
    }

    /** Lets an error come about in a chain, looks at it from behind, and mends it. */
    private void pull() {
        int i = upTo(48);
        call("put", 0, i / 5, i % 5, 0);
        for (int looks = upTo(2); looks >= 0; looks--) {
            int at = i + upTo(49 - i);
            call(random.nextBoolean() ? "through" : "cause", 0, at / 5, at % 5);
        }
        call("runs");
        if (random.nextInt(5) == 0) {
            call("undo");
        } else if (i == 0) {
            call("set", 0, 0, 0, small());
        } else if (random.nextInt(20) > 0) {
            call("put", 0, i / 5, i % 5, random.nextInt(20) == 0 ? upTo(49) : i);
        }
    }

    private boolean run() {
        boolean isRich = most == 512 && random.nextBoolean();
        boolean isChain = !isRich && most == 512 && random.nextInt(3) == 0;
        if (isRich) {
            makeRich();
        }
        if (isChain) {
            makeChain();
        }
        int many = 1 + upTo(2);
        for (int i = 0; i < many; i++) {
            makeGrid();
        }
        if (random.nextBoolean()) {
            notes++;
            call("note");
        }
        int first = 5 + upTo(10);
        for (int i = 0; i < first; i++) {
            makeNode();
        }
        boolean isDense = random.nextInt(3) > 0;
        if (isDense) {
            makeDense();
        }
        while (isFine && calls < most) {
            int what = random.nextInt(10);
            if (isRich && random.nextInt(20) != 0) {
                stir();
            } else if (isChain && random.nextInt(20) != 0) {
                pull();
            } else if (what == 0) {
                makeNode();
            } else if (what < 6) {
                change();
            } else {
                look();
            }
            if (random.nextInt(200) == 0) {
                makeGrid();
            }
            if (random.nextInt(40) == 0) {
                lookAtAll();
            }
            if (isWild && random.nextInt(5) == 0) {
                reckless();
            }
        }
        if (!isFine) {
            log.forEach(System.out::println);
        }
        return isFine;
    }

    public static void main(String[] args) {
        long from = args.length > 0 ? Long.parseLong(args[0]) : 1;
        int many = args.length > 1 ? Integer.parseInt(args[1]) : 1500;
        int passed = 0;
        int failed = 0;
        for (long seed = from; seed < from + many && failed < 3; seed++) {
            if (new ModelTest(seed).run()) {
                passed++;
            } else {
                failed++;
                System.out.println("seed " + seed + " went wrong");
            }
        }
        System.out.println(passed + " passed, " + failed + " failed");
        System.exit(failed == 0 ? 0 : 1);
    }
}
