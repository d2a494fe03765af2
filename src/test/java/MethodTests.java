/** Promises 1 to 8: bells, changes, calls, leads, the pattern, the text's signs. */
public final class MethodTests {
    private static final Due due = new Due();

    public static void main(String[] args) {
        constants();
        newObject();
        bells();
        bellsClear();
        change();
        changesFull();
        calls();
        call();
        leads();
        pattern();
        feed();
        due.end("MethodTests");
    }

    private static void constants() {
        due.is(0, "NONE", BellTouches.NONE, -1);
        due.is(0, "BAD", BellTouches.BAD, -2);
        due.is(0, "STATE", BellTouches.STATE, -3);
        due.is(0, "FULL", BellTouches.FULL, -4);
        due.is(0, "NO", BellTouches.NO, Long.MIN_VALUE);
    }

    private static void newObject() {
        Counted x = new Counted();
        int[] told = {6, 0, 1, 0, -5, -5, 0, 0};
        for (int what = 0; what < told.length; what++) {
            due.is(1, "told(" + what + ")", x.told(what), told[what]);
        }
        due.is(1, "of(1, 0)", x.of(1, 0), -5);
        due.is(1, "of(2, 0)", x.of(2, 0), -5);
        due.is(1, "of(0, 0)", x.of(0, 0), -1);
        for (int lead = 0; lead < 12; lead++) {
            due.is(1, "of(3, " + lead + ")", x.of(3, lead), 0);
        }
        for (int what = 0; what < 4; what++) {
            due.is(1, "count(" + what + ")", x.count(what), 0);
        }
        due.is(1, "undo()", x.undo(), -3);
        for (int place = 1; place <= 6; place++) {
            due.is(1, "at(0, " + place + ")", x.at(0, place), place);
        }
        for (int tape = 0; tape < 6; tape++) {
            due.is(1, "peek(" + tape + ", 0)", x.peek(tape, 0), Long.MIN_VALUE);
        }
    }

    private static void bells() {
        Counted x = new Counted();
        x.change(33);
        String before = Due.all(x);
        for (int n : new int[] {3, 9, 0, -1, Integer.MAX_VALUE, Integer.MIN_VALUE}) {
            due.is(2, "bells(" + n + ")", x.bells(n), -2);
        }
        due.holds("2: a refused bells changes nothing", before.equals(Due.all(x)));
        due.is(2, "bells(4)", x.bells(4), 6);
        due.is(2, "bells(8)", x.bells(8), 4);
        due.is(2, "bells(8) again", x.bells(8), 8);
        due.is(2, "told(0)", x.told(0), 8);
        due.is(2, "at(0, 8)", x.at(0, 8), 8);
    }

    private static void bellsClear() {
        Counted x = new Counted();
        for (int n : new int[] {6, 5}) {
            x.feed('c');
            x.change((1 << x.told(0)) - 1);
            x.calls(1, (1 << x.told(0)) - 1);
            x.calls(2, (1 << x.told(0)) - 1);
            x.call(0, 1);
            x.call(11, 2);
            x.leads(12);
            x.pattern(1, 2);
            x.pattern(8, 2);
            x.see(0, 1, 1);
            x.event(3, 2);
            x.book(0, 2);
            x.tape(0, 0, 1);
            due.is(2, "looked() ahead of bells", x.looked(), 0);
            due.is(2, "bells(" + n + ")", x.bells(n), 6);
            due.is(2, "changes", x.told(1), 0);
            due.is(2, "leads", x.told(2), 1);
            due.is(2, "BOB", x.of(1, 0), -5);
            due.is(2, "SINGLE", x.of(2, 0), -5);
            due.is(2, "CALL of 0", x.of(3, 0), 0);
            due.is(2, "CALL of 11", x.of(3, 11), 0);
            due.is(2, "pattern(1, 0)", x.pattern(1, 0), 0);
            due.is(2, "pattern(8, 0)", x.pattern(8, 0), 0);
            due.is(2, "count(0)", x.count(0), 0);
            due.is(2, "count(1)", x.count(1), 0);
            due.is(2, "count(2)", x.count(2), 0);
            due.is(2, "looked()", x.looked(), -5);
        }
        due.is(2, "THE TEXT stays", x.count(3), 2);
        due.is(2, "TAPES stay", x.peek(0, 0), 0);
    }

    private static void change() {
        Counted x = new Counted();
        String before = Due.all(x);
        due.is(3, "change(-1)", x.change(-1), -2);
        due.is(3, "change(64)", x.change(64), -2);
        due.is(3, "change(MIN)", x.change(Integer.MIN_VALUE), -2);
        due.is(3, "change(MAX)", x.change(Integer.MAX_VALUE), -2);
        due.is(3, "change(1)", x.change(1), -3);
        due.is(3, "change(2)", x.change(2), -3);
        due.is(3, "change(32)", x.change(32), -3);
        due.is(3, "change(18)", x.change(18), -3);
        due.holds("3: a refused change changes nothing", before.equals(Due.all(x)));
        due.is(3, "change(0)", x.change(0), 1);
        due.is(3, "change(63)", x.change(63), 2);
        due.is(3, "change(33)", x.change(33), 3);
        due.is(3, "change(12)", x.change(12), 4);
        due.is(3, "of(0, 3)", x.of(0, 3), 12);
        due.holds("3: row 1", Due.row(x, 1).equals("214365"));
        due.holds("3: row 2", Due.row(x, 2).equals("214365"));
        due.holds("3: row 3", Due.row(x, 3).equals("241635"));
        due.holds("3: row 4", Due.row(x, 4).equals("421653"));
        x.bells(8);
        due.is(3, "change(255) of 8", x.change(255), 1);
        due.is(3, "change(256) of 8", x.change(256), -2);
        due.is(3, "change(129) of 8", x.change(129), 2);
        due.holds("3: row 2 of 8", Due.row(x, 2).equals("13254768"));
        x.bells(5);
        due.is(3, "change(0) of 5", x.change(0), -3);
        due.is(3, "change(16) of 5", x.change(16), 1);
        due.is(3, "change(31) of 5", x.change(31), 2);
        due.is(3, "change(32) of 5", x.change(32), -2);
        due.holds("3: row 1 of 5", Due.row(x, 1).equals("21435"));
    }

    private static void changesFull() {
        Counted x = new Counted();
        for (int i = 1; i <= 16; i++) {
            due.is(3, "change(0)", x.change(0), i);
        }
        String before = Due.all(x);
        due.is(3, "change(0), full", x.change(0), -4);
        due.is(3, "change(1), full", x.change(1), -3);
        due.is(3, "change(64), full", x.change(64), -2);
        due.holds("3: a refused change changes nothing", before.equals(Due.all(x)));
    }

    private static void calls() {
        Counted x = new Counted();
        x.change(0);
        due.is(4, "calls(1, 63)", x.calls(1, 63), 0);
        due.is(4, "calls(2, -1)", x.calls(2, -1), 0);
        due.is(4, "calls(2, 33)", x.calls(2, 33), 0);
        String before = Due.all(x);
        due.is(4, "calls(0, 0)", x.calls(0, 0), -1);
        due.is(4, "calls(3, 64)", x.calls(3, 64), -1);
        due.is(4, "calls(1, -2)", x.calls(1, -2), -2);
        due.is(4, "calls(1, 64)", x.calls(1, 64), -2);
        due.is(4, "calls(2, 1)", x.calls(2, 1), -3);
        due.holds("4: refused calls change nothing", before.equals(Due.all(x)));
        due.is(4, "of(1, 0)", x.of(1, 0), 63);
        due.is(4, "of(2, 0)", x.of(2, 0), 33);
        x.call(0, 1);
        due.holds("4: by the bob", Due.row(x, 1).equals("123456"));
        x.call(0, 2);
        due.holds("4: by the single", Due.row(x, 1).equals("132546"));
        due.is(4, "calls(2, -1)", x.calls(2, -1), 1);
        due.is(4, "calls(1, -1)", x.calls(1, -1), 1);
        due.is(4, "calls(1, -1) again", x.calls(1, -1), 0);
        due.holds("4: no single, so as it is", Due.row(x, 1).equals("214365"));
        due.is(4, "calls(1, 0)", x.calls(1, 0), 0);
        due.is(4, "calls(1, 0) again", x.calls(1, 0), 1);
        due.is(4, "of(1, 0)", x.of(1, 0), 0);
    }

    private static void call() {
        Counted x = new Counted();
        String before = Due.all(x);
        due.is(5, "call(-1, 0)", x.call(-1, 0), -1);
        due.is(5, "call(12, 3)", x.call(12, 3), -1);
        due.is(5, "call(0, 3)", x.call(0, 3), -2);
        due.is(5, "call(0, -1)", x.call(0, -1), -2);
        due.holds("5: a refused call changes nothing", before.equals(Due.all(x)));
        due.is(5, "call(0, 2)", x.call(0, 2), 0);
        due.is(5, "call(0, 1)", x.call(0, 1), 2);
        due.is(5, "call(11, 1)", x.call(11, 1), 0);
        due.is(5, "call(11, 0)", x.call(11, 0), 1);
        due.is(5, "of(3, 0)", x.of(3, 0), 1);
        due.is(5, "of(3, 11)", x.of(3, 11), 0);
        x.change(33);
        x.change(0);
        x.calls(1, 63);
        x.leads(2);
        due.holds("5: the last change of the called lead", Due.row(x, 2).equals("132546"));
        due.holds("5: the next lead is plain", Due.row(x, 4).equals("214365"));
    }

    private static void leads() {
        Counted x = new Counted();
        due.is(6, "leads(0)", x.leads(0), -2);
        due.is(6, "leads(13)", x.leads(13), -2);
        due.is(6, "leads(-1)", x.leads(-1), -2);
        due.is(6, "told(2)", x.told(2), 1);
        due.is(6, "leads(12)", x.leads(12), 1);
        due.is(6, "leads(1)", x.leads(1), 12);
        due.is(6, "leads(2)", x.leads(2), 1);
        due.is(6, "told(3) without changes", x.told(3), 0);
        x.change(0);
        due.is(6, "told(3)", x.told(3), 2);
        due.is(6, "leads(13)", x.leads(13), -2);
        due.is(6, "told(3)", x.told(3), 2);
        x.leads(12);
        for (int i = 0; i < 15; i++) {
            x.change(0);
        }
        due.is(6, "told(3), the most", x.told(3), 192);
        due.is(6, "at(192, 1)", x.at(192, 1), 1);
        due.is(6, "at(193, 1)", x.at(193, 1), -1);
    }

    private static void pattern() {
        Counted x = new Counted();
        x.change(0);
        due.is(7, "pattern(0, 9)", x.pattern(0, 9), -1);
        due.is(7, "pattern(9, 1)", x.pattern(9, 1), -1);
        due.is(7, "pattern(1, 9)", x.pattern(1, 9), -2);
        due.is(7, "pattern(1, -1)", x.pattern(1, -1), -2);
        due.is(7, "music(2)", x.music(2), 1);
        due.is(7, "pattern(1, 2)", x.pattern(1, 2), 0);
        due.is(7, "music(2)", x.music(2), 1);
        due.is(7, "pattern(1, 1)", x.pattern(1, 1), 2);
        due.is(7, "music(2)", x.music(2), 0);
        due.is(7, "pattern(1, 9)", x.pattern(1, 9), -2);
        due.is(7, "pattern(1, 0)", x.pattern(1, 0), 1);
        due.is(7, "music(2)", x.music(2), 1);
        due.is(7, "pattern(8, 8)", x.pattern(8, 8), 0);
        due.is(7, "pattern(7, 1)", x.pattern(7, 1), 0);
        due.is(7, "music(2), places above n", x.music(2), 1);
        due.is(7, "pattern(6, 8)", x.pattern(6, 8), 0);
        due.is(7, "music(2), a bell above n", x.music(2), 0);
        due.is(7, "pattern(8, 0)", x.pattern(8, 0), 8);
    }

    private static void feed() {
        Counted x = new Counted();
        due.is(8, "feed(-1)", x.feed(-1), -2);
        due.is(8, "feed(128)", x.feed(128), -2);
        due.is(8, "count(3)", x.count(3), 0);
        due.is(8, "feed(0)", x.feed(0), 1);
        due.is(8, "feed(127)", x.feed(127), 2);
        for (int i = 3; i <= 100; i++) {
            due.is(8, "feed(120)", x.feed(120), i);
        }
        due.is(8, "feed(120), full", x.feed(120), -4);
        due.is(8, "feed(128), full", x.feed(128), -2);
        due.is(8, "count(3)", x.count(3), 100);
        due.is(8, "read()", x.read(), -10);
        due.is(8, "feed(120) behind read", x.feed(120), 1);
    }
}
