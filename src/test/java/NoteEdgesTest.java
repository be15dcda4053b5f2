/** The edges of promises 16 to 23, 31 and 32: names, functions, notes, clock, way. */
public final class NoteEdgesTest {
    private static final Checks CHECKS = new Checks();
    private static final long MOST = Checks.MOST;

    private static void names() {
        CHECKS.promise("Promise 16");
        NoteDocument x = Make.document(3, 2);
        for (int name : new int[] {-1, 6, Integer.MIN_VALUE, Integer.MAX_VALUE}) {
            CHECKS.thrownBy("no such name", Checks.ARGUMENT, () -> x.name(name, -1));
            CHECKS.thrownBy("no such name nor node", Checks.ARGUMENT, () -> x.name(name, 5));
        }
        for (int node : new int[] {-2, 0, 150, Integer.MIN_VALUE, Integer.MAX_VALUE}) {
            CHECKS.thrownBy("no such node", Checks.INDEX, () -> x.name(0, node));
        }
        CHECKS.thrown("nothing is kept", Checks.STATE, x::undo);
        int five = x.number(5);
        for (int name = 0; name < 6; name += 5) {
            x.put(0, 0, 0, x.leaf(1, name));
            x.name(name, -1);
            CHECKS.due("none for none", Make.shown(x, 0, 0, 0), "!8");
            x.name(name, five);
            CHECKS.due("a node", Make.shown(x, 0, 0, 0), "5");
            x.name(name, -1);
            CHECKS.due("none", Make.shown(x, 0, 0, 0), "!8");
            x.undo();
            CHECKS.due("undone", Make.shown(x, 0, 0, 0), "5");
        }
        NoteDocument y = Make.document(4, 2);
        y.name(0, Make.upTo(y, 3));
        y.name(1, y.leaf(1, 0));
        y.put(0, 0, 0, Make.fold(y, Make.FOLD_SUM, y.leaf(1, 1)));
        CHECKS.due("a row, by way of two names", Make.shown(y, 0, 0, 0), "6");
        y.name(0, Make.upTo(y, 1));
        CHECKS.due("a row of one value stays one", Make.shown(y, 0, 0, 0), "1");
        y.name(0, y.leaf(2, 0));
        y.define(0, y.leaf(1, 0));
        int two = y.number(2);
        y.put(0, 0, 0, Make.call(y, 0, two, two));
        CHECKS.due("GIVEN as elsewhere, also by way of a function", Make.shown(y, 0, 0, 0), "!8");
        CHECKS.due("it has come through this cell alone", y.through(0, 0, 0), 1);
        CHECKS.due("a body was run", y.calls(), 1);
        CHECKS.due("a formula was run", y.runs(), 2 + 1);
        y.name(0, y.leaf(1, 0));
        y.put(0, 0, 0, y.leaf(1, 0));
        CHECKS.due("a name that needs itself", Make.shown(y, 0, 0, 0), "!4");
        CHECKS.due("has come through this cell alone", y.through(0, 0, 0), 1);
        CHECKS.due("who reads it is in no circle", y.runs(), 4);
    }

    private static void functions() {
        CHECKS.promise("Promise 17");
        NoteDocument x = Make.document(3, 2);
        for (int function : new int[] {-1, 4, Integer.MIN_VALUE, Integer.MAX_VALUE}) {
            CHECKS.thrownBy("no such function", Checks.ARGUMENT, () -> x.define(function, -1));
            CHECKS.thrownBy("no such function nor node", Checks.ARGUMENT, () -> x.define(function, 5));
        }
        for (int node : new int[] {-2, 0, 150, Integer.MIN_VALUE, Integer.MAX_VALUE}) {
            CHECKS.thrownBy("no such node", Checks.INDEX, () -> x.define(0, node));
        }
        int two = x.number(2);
        int three = x.number(3);
        int difference = Make.two(x, Make.SUBTRACT, x.leaf(2, 0), x.leaf(2, 1));
        for (int function = 0; function < 4; function += 3) {
            x.put(0, 0, 0, Make.call(x, function, two, three));
            x.define(function, -1);
            CHECKS.due("no body for none", Make.shown(x, 0, 0, 0), "!8");
            x.define(function, difference);
            CHECKS.due("a body", Make.shown(x, 0, 0, 0), "-1");
            x.define(function, -1);
            CHECKS.due("no body", Make.shown(x, 0, 0, 0), "!8");
            x.undo();
            int calls = x.calls();
            CHECKS.due("undone", Make.shown(x, 0, 0, 0), "-1");
            CHECKS.due("what was found is back", x.calls(), calls);
            x.define(function, difference);
            x.value(0, 0, 0);
            CHECKS.due("the same body is no other one", x.calls(), calls);
        }
        int sum = Make.two(x, Make.ADD, x.leaf(2, 0), x.leaf(2, 1));
        NoteDocument y = x;
        y.define(0, sum);
        y.define(1, sum);
        int calls = y.calls();
        y.put(0, 0, 0, Make.call(y, 0, two, three));
        y.put(0, 1, 0, Make.call(y, 0, three, two));
        y.put(0, 2, 0, Make.call(y, 1, two, three));
        y.put(0, 0, 1, Make.call(y, 0, two, three));
        y.calculate();
        CHECKS.due("found for each function and what it is called with, once", y.calls(), calls + 3);
    }

    private static void mostNotes() {
        CHECKS.promise("Promise 18");
        NoteDocument x = Make.document(1, 1);
        CHECKS.thrown("LENGTH of no note", Checks.ARGUMENT, () -> x.leaf(3, 0));
        for (int i = 0; i < 3; i++) {
            int note = i;
            CHECKS.thrown("not there yet", Checks.INDEX, () -> x.length(note));
            CHECKS.due("numbered from 0", x.note(), i);
            CHECKS.due("empty", x.length(i), 0);
            CHECKS.due("LENGTH of a note", x.leaf(3, i), i);
        }
        CHECKS.thrown("a fourth one", Checks.STATE, x::note);
        CHECKS.thrown("is not kept", Checks.STATE, x::undo);
        x.say(2, 1);
        x.undo();
        CHECKS.thrown("undone never", Checks.STATE, x::note);
    }

    private static void parts() {
        CHECKS.promise("Promise 19");
        NoteDocument x = Make.document(1, 1);
        CHECKS.thrown("no notes", Checks.INDEX, () -> x.say(0, 0));
        x.note();
        x.note();
        for (int note : new int[] {-1, 2, Integer.MIN_VALUE, Integer.MAX_VALUE}) {
            CHECKS.thrown("no such note", Checks.INDEX, () -> x.say(note, 1));
            CHECKS.thrown("no such note nor letters", Checks.INDEX, () -> x.say(note, 0));
            CHECKS.thrown("no such note, cell nor format", Checks.INDEX, () -> x.show(note, 0, 0, 0, 3));
            CHECKS.thrown("no such note", Checks.INDEX, () -> x.length(note));
            CHECKS.thrown("no such note", Checks.INDEX, () -> x.letter(note, 0));
        }
        for (int letters : new int[] {0, -1, 21, Integer.MIN_VALUE, Integer.MAX_VALUE}) {
            CHECKS.thrown("letters", Checks.ARGUMENT, () -> x.say(1, letters));
        }
        for (int i = 1; i <= 8; i++) {
            CHECKS.due("parts", x.say(0, i == 1 ? 1 : 20), i);
        }
        CHECKS.due("all letters", x.length(0), 141);
        CHECKS.thrown("8 parts", Checks.STATE, () -> x.say(0, 1));
        CHECKS.thrown("8 parts", Checks.STATE, () -> x.show(0, 0, 0, 0, 0));
        CHECKS.thrown("8 parts, letters", Checks.ARGUMENT, () -> x.say(0, 21));
        CHECKS.thrown("8 parts, format", Checks.ARGUMENT, () -> x.show(0, 0, 0, 0, 3));
        CHECKS.thrown("8 parts, no cell", Checks.INDEX, () -> x.show(0, 0, 0, 1, 3));
        CHECKS.due("another note", x.show(1, 0, 0, 0, 0), 1);
        x.undo();
        x.undo();
        CHECKS.due("undone", x.show(0, 0, 0, 0, 2), 8);
        CHECKS.due("an empty cell as nothing", x.length(0), 121);

        CHECKS.promise("Promise 20");
        int[][] wrong = {{-1, 0, 0}, {1, 0, 0}, {0, -1, 0}, {0, 1, 0}, {0, 0, -1}, {0, 0, 1}};
        for (int[] at : wrong) {
            CHECKS.thrown("no such cell", Checks.INDEX, () -> x.show(1, at[0], at[1], at[2], -1));
        }
        for (int format : new int[] {-1, 3, Integer.MIN_VALUE, Integer.MAX_VALUE}) {
            CHECKS.thrown("format", Checks.ARGUMENT, () -> x.show(1, 0, 0, 0, format));
        }
        x.set(0, 0, 0, -MOST);
        for (int i = 0; i < 7; i++) {
            x.show(1, 0, 0, 0, 1);
        }
        CHECKS.due("the eighth part", x.show(1, 0, 0, 0, 1), 8);
        CHECKS.due("the most characters", x.length(1), 8 * 22);
        CHECKS.due("the last one", x.letter(1, 8 * 22 - 1), '0');
    }

    /** A number in each format, by "|". */
    private static void shown(long number, String want) {
        NoteDocument x = Make.document(2, 1);
        x.note();
        x.set(0, 0, 0, number);
        StringBuilder text = new StringBuilder();
        for (int format = 0; format < 3; format++) {
            x.show(0, 0, 0, 0, format);
            text.append(format == 0 ? "" : "|").append(Make.text(x, 0));
            x.undo();
        }
        CHECKS.due("" + number, text.toString(), want);
    }

    private static void formats() {
        CHECKS.promise("Formats");
        shown(0, "0|0|     0");
        shown(7, "7|7|     7");
        shown(-7, "-7|-7|    -7");
        shown(10, "10|10|    10");
        shown(99, "99|99|    99");
        shown(100, "100|100|   100");
        shown(999, "999|999|   999");
        shown(-999, "-999|-999|  -999");
        shown(1000, "1000|1,000|  1000");
        shown(-1000, "-1000|-1,000| -1000");
        shown(-9999, "-9999|-9,999| -9999");
        shown(-10000, "-10000|-10,000|-10000");
        shown(99999, "99999|99,999| 99999");
        shown(100000, "100000|100,000|100000");
        shown(-100000, "-100000|-100,000|-100000");
        shown(999999, "999999|999,999|999999");
        shown(1000000, "1000000|1,000,000|1000000");
        shown(1002003, "1002003|1,002,003|1002003");
        shown(999999999999999L, "999999999999999|999,999,999,999,999|999999999999999");
        shown(MOST, "1000000000000000|1,000,000,000,000,000|1000000000000000");
        shown(-MOST, "-1000000000000000|-1,000,000,000,000,000|-1000000000000000");
        for (int format = 0; format < 3; format++) {
            NoteDocument x = Make.document(4, 3);
            x.note();
            CHECKS.due("no parts", Make.text(x, 0), "");
            x.show(0, 0, 3, 1, format);
            CHECKS.due("empty as nothing", Make.text(x, 0), "");
            x.put(0, 0, 0, Make.error(x));
            x.show(0, 0, 0, 0, format);
            CHECKS.due("an error", Make.text(x, 0), "!1");
            x.put(0, 0, 1, Make.list(x, 1, Make.list(x, 2, x.range(0, 1, 2, 3, 2))));
            x.set(0, 1, 2, 123456);
            x.set(0, 2, 2, 654321);
            x.show(0, 0, 0, 1, format);
            x.show(0, 0, 1, 1, format);
            String[] wants = {"!1654321123456", "!1654,321123,456", "!1654321123456"};
            CHECKS.due("a row by its first value, and what it spills", Make.text(x, 0), wants[format]);
            x.set(0, 1, 1, 5);
            CHECKS.due("what is blocked", Make.text(x, 0), new String[] {"!1!55", "!1!55", "!1!5     5"}[format]);
            x.remove(0, 1);
            CHECKS.due("a torn cell", Make.text(x, 0), format == 1 ? "!1654,321!3" : "!1654321!3");
        }
    }

    private static void lengths() {
        CHECKS.promise("LENGTH, promises 31 and 32");
        NoteDocument x = Make.document(3, 2);
        x.note();
        x.put(0, 2, 0, x.leaf(3, 0));
        CHECKS.due("an empty note", Make.shown(x, 0, 2, 0), "0");
        CHECKS.thrown("an empty note has no characters", Checks.INDEX, () -> x.letter(0, 0));
        x.show(0, 0, 1, 0, 0);
        CHECKS.due("of empty cells", x.length(0), 0);
        x.set(0, 1, 0, 5);
        x.value(0, 2, 0);
        int runs = x.runs();
        x.set(0, 1, 0, -5);
        CHECKS.due("a value", Make.shown(x, 0, 2, 0), "2");
        CHECKS.due("run", x.runs(), runs + 1);
        for (int place : new int[] {-1, 2, Integer.MIN_VALUE, Integer.MAX_VALUE}) {
            CHECKS.thrown("no such character", Checks.INDEX, () -> x.letter(0, place));
        }
        CHECKS.due("the first one", x.letter(0, 0), '-');
        CHECKS.due("the last one", x.letter(0, 1), '5');
        x.show(0, 0, 2, 0, 0);
        CHECKS.due("a note that shows its length", Make.text(x, 0), "!4");
        CHECKS.due("of 2 characters", x.length(0), 2);
        CHECKS.thrown("and no third one", Checks.INDEX, () -> x.letter(0, 2));
        CHECKS.due("the cell is in the circle", Make.shown(x, 0, 2, 0), "!4");
        x.put(0, 2, 1, x.leaf(3, 0));
        CHECKS.due("the length of a note in a circle", Make.shown(x, 0, 2, 1), "2");
        x.note();
        x.show(1, 0, 2, 0, 2);
        CHECKS.due("another note shows the error", Make.text(x, 1), "!4");
        x.set(0, 2, 0, 12);
        CHECKS.due("a circle no more", Make.text(x, 0), "-512");
        CHECKS.due("its length", Make.shown(x, 0, 2, 1), "4");
        x.put(0, 0, 0, x.leaf(3, 0));
        x.erase(0, 1, 0);
        CHECKS.due("a note that shows what its length could spill into", Make.text(x, 0), "!4");
    }

    private static void ticks() {
        CHECKS.promise("Promise 21");
        NoteDocument x = Make.document(3, 1);
        int[][] wrong = {{-1, 0}, {0, -1}, {1000001, 0}, {0, 1000001}, {Integer.MIN_VALUE, 0}, {0, Integer.MAX_VALUE}};
        for (int[] tick : wrong) {
            CHECKS.thrown("out of range", Checks.ARGUMENT, () -> x.tick(tick[0], tick[1]));
        }
        x.put(0, 0, 0, x.leaf(4, 0));
        x.put(0, 1, 0, x.leaf(5, 0));
        x.put(0, 2, 0, x.leaf(6, 1));
        int[][] right = {{0, 0}, {1000000, 0}, {0, 1000000}, {1000000, 1000000}};
        for (int i = 0; i < 4; i++) {
            CHECKS.due("how many", x.tick(right[i][0], right[i][1]), i + 1);
            long draw = 7919L * ((31L * right[i][1] + i + 1) * 31 + 1) % 1000;
            CHECKS.due("all three", Make.all(x, 0, 1), right[i][0] + " / " + (i + 1) + " / " + draw);
        }
        x.undo();
        CHECKS.due("undone", Make.all(x, 0, 1), "0 / 3 / " + 7919L * ((31L * 1000000 + 3) * 31 + 1) % 1000);
        CHECKS.due("how many", x.tick(0, 1000000), 4);
        int runs = x.runs();
        x.calculate();
        CHECKS.due("the same time is no change", x.runs(), runs + 2);
    }

    private static void ways() {
        CHECKS.promise("Promise 22");
        NoteDocument x = Make.document(4, 2);
        for (int way : new int[] {-1, 3, Integer.MIN_VALUE, Integer.MAX_VALUE}) {
            CHECKS.thrown("way", Checks.ARGUMENT, () -> x.setWay(way));
        }
        int a = Make.cell(x, 0, 0);
        x.put(0, 1, 0, a);
        int[] ways = {0, 1, 1, 2, 2, 0, 2, 1, 0};
        for (int i = 1; i < ways.length; i++) {
            CHECKS.due("the way before", x.setWay(ways[i]), ways[i - 1]);
        }
        CHECKS.due("asked for at once", x.runs(), 1);
        CHECKS.due("not kept", x.undo(), 0);
        CHECKS.due("the way stays", x.setWay(0), 0);
        byPush();
        eachByPush();
        byHand();
        calculate();
    }

    /** Behind each call that is undoable all is asked for, and behind no other one. */
    private static void byPush() {
        NoteDocument x = Make.document(5, 2);
        x.setWay(1);
        int clock = x.leaf(4, 0);
        int counter = x.leaf(5, 0);
        x.put(0, 0, 0, clock);
        CHECKS.due("put", x.runs(), 1);
        x.put(0, 1, 0, counter);
        CHECKS.due("put", x.runs(), 2);
        x.tick(0, 0);
        CHECKS.due("the counter alone", x.runs(), 3);
        x.tick(5, 0);
        CHECKS.due("both", x.runs(), 5);
        x.undo();
        CHECKS.due("undo() is none", x.runs(), 5);
        CHECKS.due("what was found is back", Make.all(x, 0, 1), "0 / 1 / - / - / -");
        CHECKS.due("without a run", x.runs(), 5);
        x.name(0, clock);
        x.put(0, 2, 0, x.leaf(1, 0));
        CHECKS.due("a cell that asks for a name", x.runs(), 6);
        x.name(0, counter);
        CHECKS.due("name", x.runs(), 7);
        x.define(0, counter);
        CHECKS.due("define", x.calls(), 0);
        x.put(0, 3, 0, Make.call(x, 0, x.number(1), x.number(2)));
        CHECKS.due("what it asks for", x.calls(), 1);
        x.define(0, clock);
        CHECKS.due("define", x.calls(), 2);
        CHECKS.due("define", x.runs(), 9);
        x.note();
        x.show(0, 0, 0, 0, 0);
        x.hold(0, 0, 0, 4);
        CHECKS.due("hold", x.runs(), 9);
        x.erase(0, 3, 0);
        CHECKS.due("erase", x.runs(), 9);
        x.insert(0, 5);
        CHECKS.due("insert: all anew", x.runs(), 12);
        x.remove(0, 5);
        CHECKS.due("remove: all anew", x.runs(), 15);
        x.move(0, 0, 0, 4, 0);
        CHECKS.due("move: all anew", x.runs(), 18);
        x.sort(0, 0, 0, 0);
        CHECKS.due("sort: all anew", x.runs(), 21);
        x.set(0, 0, 0, 1);
        x.overlay(0, 0, 0, 0, 1);
        x.drop(0);
        x.rounds(1);
        CHECKS.due("nothing that is read has changed", x.runs(), 21);
        x.setWay(2);
        CHECKS.due("notes are asked for, too", Make.text(x, 0), "0");
    }

    /** By push each undoable call asks for all, also for what it has nothing to do with. */
    private static void eachByPush() {
        for (int call = 0; call < 17; call++) {
            NoteDocument x = Make.document(4, 3);
            int five = x.number(5);
            x.note();
            x.put(0, 3, 2, five);
            x.put(0, 3, 0, x.number(4));
            x.set(0, 0, 0, 1);
            x.set(0, 0, 1, 2);
            x.setWay(1);
            CHECKS.due("asked for as it became by push", x.runs(), 2);
            x.undo();
            x.set(0, 0, 1, 2);
            CHECKS.due("nothing had been found ahead of that call", x.runs(), 4);
            x.undo();
            CHECKS.due("undo() asks for nothing", x.runs(), 4);
            pushed(x, call);
            CHECKS.due("all was asked for, behind call " + call, x.runs() >= (call == 12 ? 6 : 5));
        }
    }

    private static void pushed(NoteDocument x, int call) {
        switch (call) {
            case 0: x.set(0, 1, 1, 1); break;
            case 1: x.put(0, 1, 1, 0); break;
            case 2: x.erase(0, 1, 1); break;
            case 3: x.hold(0, 3, 2, 1); break;
            case 4: x.rounds(1); break;
            case 5: x.name(0, -1); break;
            case 6: x.define(0, -1); break;
            case 7: x.say(0, 1); break;
            case 8: x.show(0, 0, 1, 1, 0); break;
            case 9: x.tick(0, 0); break;
            case 10: x.insert(0, 0); break;
            case 11: x.remove(0, 0); break;
            case 12: x.move(0, 3, 2, 3, 1); break;
            case 13: x.sort(0, 0, 0, 0); break;
            case 14: x.overlay(0, 0, 0, 0, 1); break;
            case 15: x.drop(0); break;
            default: x.hold(0, 3, 0, 1);
        }
    }

    private static void byHand() {
        NoteDocument x = Make.document(4, 2);
        x.setWay(2);
        x.note();
        x.say(0, 3);
        x.put(0, 0, 0, Make.upTo(x, 2));
        x.set(0, 3, 0, 6);
        CHECKS.due("empty if nothing was found", Make.all(x, 0, 1), "- / - / - / 6");
        CHECKS.due("of one value", x.spills(0, 0, 0), 1);
        CHECKS.due("no error", x.through(0, 0, 0), 0);
        CHECKS.due("none", x.cause(0, 0, 0), -1);
        CHECKS.due("a note without characters", x.length(0), 0);
        CHECKS.thrown("no such character", Checks.INDEX, () -> x.letter(0, 0));
        CHECKS.due("from nothing", x.valueFromNothing(0, 1, 0), 2);
        CHECKS.due("in a scenario", x.valueIn(0, 0, 1, 0), 2);
        CHECKS.due("a goal", x.seek(0, 30, 10, 2, 0, 1), 0);
        CHECKS.due("keeps nothing", x.runs(), 0);
        CHECKS.due("calculate", x.calculate(), 1);
        CHECKS.due("all", Make.all(x, 0, 1), "1 / 2 / - / 6");
        CHECKS.due("the note", Make.text(x, 0), "aaa");
        x.say(0, 1);
        x.set(0, 1, 0, 9);
        CHECKS.due("what was found, whatever has changed", Make.all(x, 0, 1), "1 / 9 / - / 6");
        CHECKS.due("what was found", x.spills(0, 0, 0), 2);
        CHECKS.due("the note", Make.text(x, 0), "aaa");
        x.calculate();
        CHECKS.due("now it is blocked", Make.all(x, 0, 1), "!5 / 9 / - / 6");
        CHECKS.due("through", x.through(0, 0, 0), 1);
        x.insert(0, 4);
        CHECKS.due("forgotten", Make.all(x, 0, 1), "- / 9 / - / 6 / -");
        CHECKS.due("a note, too", x.length(0), 0);
        x.undo();
        CHECKS.due("found again", Make.all(x, 0, 1), "!5 / 9 / - / 6");
        CHECKS.due("the note", x.length(0), 4);
        x.put(0, 0, 0, x.number(5));
        CHECKS.due("another content", Make.shown(x, 0, 0, 0), "-");
        x.undo();
        CHECKS.due("found again", Make.shown(x, 0, 0, 0), "!5");
        x.setWay(0);
        CHECKS.due("by need it is asked for", Make.all(x, 0, 1), "!5 / 9 / - / 6");
        CHECKS.due("nothing had changed", x.runs(), 2);
    }

    private static void calculate() {
        CHECKS.promise("Promise 23");
        CHECKS.due("of nothing", new NoteDocument().calculate(), 0);
        NoteDocument x = Make.document(5, 2);
        x.note();
        int a = Make.cell(x, 0, 0);
        x.put(0, 1, 0, a);
        x.put(0, 2, 0, Make.cell(x, 1, 0));
        x.hold(0, 1, 0, 3);
        x.define(0, a);
        int zero = x.number(0);
        x.put(0, 3, 0, Make.call(x, 0, zero, zero));
        x.show(0, 0, 2, 0, 0);
        CHECKS.due("held cells, too; functions do not count", x.calculate(), 3);
        CHECKS.due("a function", x.calls(), 1);
        CHECKS.due("none has changed", x.calculate(), 0);
        x.set(0, 0, 0, 6);
        CHECKS.due("what is held hides the change", x.calculate(), 2);
        CHECKS.due("the values", Make.all(x, 0, 1), "6 / 3 / 3 / 6 / -");
        x.put(0, 0, 1, Make.cell(x, 0, 1));
        CHECKS.due("a circle", x.calculate(), 0);
        x.put(0, 1, 1, Make.cell(x, 0, 1));
        CHECKS.due("who reads a circle", x.calculate(), 1);
        CHECKS.due("that has not changed", x.calculate(), 0);
        CHECKS.due("it is not kept", x.undo(), 4);
        NoteDocument y = Make.document(1, 1);
        y.setWay(2);
        for (int i = 0; i < 3; i++) {
            y.note();
            y.say(i, i + 1);
        }
        y.calculate();
        for (int i = 0; i < 3; i++) {
            CHECKS.due("all notes are asked for", y.length(i), i + 1);
        }
    }

    public static void main(String[] args) {
        names();
        functions();
        mostNotes();
        parts();
        formats();
        lengths();
        ticks();
        ways();
        CHECKS.end();
    }
}
