/** Promises 28 to 35: judging, the image, counts, tapes. */
public final class TapeTests {
    private static final Due due = new Due();
    private static final long NO = Long.MIN_VALUE;

    public static void main(String[] args) {
        judge();
        judgeEnds();
        image();
        imageHoldsAll();
        count();
        tape();
        item();
        peek();
        shift();
        shiftOverItself();
        shiftRefused();
        due.end("TapeTests");
    }

    private static void fill(Counted x, int tape, int from, int... items) {
        for (int i = 0; i < items.length; i++) {
            due.is(33, "item(" + tape + ", " + (from + i) + ")", x.item(tape, from + i, items[i]), 1);
        }
    }

    private static void judge() {
        Counted x = new Counted();
        Due.read(x, "n4;mx");
        due.is(28, "judge(-1, 0, 0)", x.judge(-1, 0, 0), -1);
        due.is(28, "judge(2, 0, 0)", x.judge(2, 0, 0), -1);
        due.is(28, "judge(0, -1, 0)", x.judge(0, -1, 0), -1);
        due.is(28, "judge(0, 6, 0)", x.judge(0, 6, 0), -1);
        due.is(28, "judge(0, 0, 0), nothing there", x.judge(0, 0, 0), 100);
        for (int sort = 1; sort <= 4; sort++) {
            x.tape(0, sort, 4);
            due.is(28, "judge, sort " + sort, x.judge(0, 0, 0), -12);
            due.is(28, "judge, sort " + sort, x.judge(0, 0, -1), -12);
            due.is(28, "judge, sort " + sort, x.judge(2, 0, 0), -1);
        }
        x.tape(0, 0, 6);
        fill(x, 0, 0, 1, 2, 3, 4, 3, 0);
        due.is(28, "judge(0, 0, 0)", x.judge(0, 0, 0), -5);
        due.is(28, "judge(1, 0, 0)", x.judge(1, 0, 0), 1);
        fill(x, 0, 0, 2, 1, 4);
        due.is(28, "judge(1, 0, 0)", x.judge(1, 0, 0), 4);
        fill(x, 0, 3, 3);
        due.is(28, "judge(1, 0, 0)", x.judge(1, 0, 0), -5);
        due.is(28, "judge(0, 0, 0)", x.judge(0, 0, 0), 1);
        fill(x, 0, 1, 1, 2, 3, 4);
        due.is(28, "judge(0, 0, 1)", x.judge(0, 0, 1), -5);
        fill(x, 0, 2, 1);
        due.is(28, "judge(0, 0, 1)", x.judge(0, 0, 1), 2);
        x.item(0, 1, 257);
        due.is(28, "judge(0, 0, 1), 257 is 1", x.judge(0, 0, 1), 2);
    }

    private static void judgeEnds() {
        Counted x = new Counted();
        x.tape(5, 0, 3);
        fill(x, 5, 0, 1, 1, 2);
        due.is(28, "judge(0, 5, -1)", x.judge(0, 5, -1), 100);
        due.is(28, "judge(0, 5, MIN)", x.judge(0, 5, Integer.MIN_VALUE), 100);
        due.is(28, "judge(0, 5, 0)", x.judge(0, 5, 0), 2);
        due.is(28, "judge(0, 5, 1)", x.judge(0, 5, 1), 102);
        due.is(28, "judge(0, 5, 2)", x.judge(0, 5, 2), 1);
        due.is(28, "judge(0, 5, 3)", x.judge(0, 5, 3), 100);
        due.is(28, "judge(0, 5, 4)", x.judge(0, 5, 4), 100);
        due.is(28, "judge(0, 5, MAX)", x.judge(0, 5, Integer.MAX_VALUE), 100);
        x.tape(5, 0, 5);
        fill(x, 5, 0, 1, 2, 3, 4, 5);
        due.is(28, "judge(0, 5, 0), five of six", x.judge(0, 5, 0), 105);
        x.tape(5, 0, 0);
        due.is(28, "judge(0, 5, 0), no item", x.judge(0, 5, 0), 100);
    }

    private static void image() {
        Counted x = new Counted();
        due.is(30, "undo()", x.undo(), -3);
        due.is(29, "image()", x.image(), 0);
        x.change(0);
        due.is(30, "undo()", x.undo(), 0);
        due.is(30, "told(1)", x.told(1), 0);
        x.change(0);
        x.change(33);
        due.is(29, "image()", x.image(), 2);
        x.change(0);
        due.is(30, "undo()", x.undo(), 2);
        x.bells(4);
        due.is(30, "undo() again", x.undo(), 2);
        due.is(30, "told(0)", x.told(0), 6);
        due.is(30, "told(3)", x.told(3), 2);
        due.holds("30: row 2", Due.row(x, 2).equals("241635"));
    }

    private static void imageHoldsAll() {
        Counted x = new Counted();
        Due.read(x, "n5;m5.1.5.1.5.125;b145;s123;cpbs");
        x.call(11, 1);
        x.pattern(1, 1);
        x.pattern(8, 3);
        x.see(1, 1, 2);
        x.event(1, 0);
        x.book(1, 2);
        x.book(2, 5);
        x.feed('n');
        x.tape(0, 3, 2);
        String before = Due.all(x);
        due.is(29, "image()", x.image(), 6);
        due.holds("29: an image changes nothing", before.equals(Due.all(x)));
        x.change(7);
        x.calls(1, 31);
        x.calls(2, -1);
        x.call(11, 2);
        x.call(1, 0);
        x.leads(7);
        x.pattern(8, 0);
        x.pattern(1, 4);
        x.see(1, 1, 3);
        x.event(3, 5);
        x.book(-1, 0);
        x.book(3, 1);
        due.holds("30: all is another", !before.equals(Due.all(x)));
        due.is(30, "undo()", x.undo(), 6);
        due.holds("30: all is as it was", before.equals(Due.all(x)));
        due.is(30, "pattern(8, 3)", x.pattern(8, 3), 3);
        x.bells(8);
        x.feed('4');
        x.item(0, 1, 9);
        due.is(30, "undo()", x.undo(), 6);
        due.is(30, "pattern(1, 1)", x.pattern(1, 1), 1);
        due.is(30, "THE TEXT is not in THE IMAGE", x.count(3), 2);
        due.is(30, "TAPES are not in THE IMAGE", x.peek(0, 1), 9);
        due.is(30, "looked()", x.looked(), 1);
    }

    private static void count() {
        Counted x = new Counted();
        due.is(31, "count(-1)", x.count(-1), -2);
        due.is(31, "count(4)", x.count(4), -2);
        x.see(0, 1, 1);
        x.event(3, 1);
        x.event(3, 1);
        x.book(0, 1);
        x.book(0, 1);
        x.book(0, 1);
        x.feed(0);
        x.feed(0);
        x.feed(0);
        x.feed(0);
        for (int what = 0; what < 4; what++) {
            due.is(31, "count(" + what + ")", x.count(what), what + 1);
        }
    }

    private static void tape() {
        Counted x = new Counted();
        due.is(32, "tape(-1, 0, 1)", x.tape(-1, 0, 1), -1);
        due.is(32, "tape(6, 9, -1)", x.tape(6, 9, -1), -1);
        due.is(32, "tape(0, -2, 1)", x.tape(0, -2, 1), -2);
        due.is(32, "tape(0, 5, -1)", x.tape(0, 5, -1), -2);
        due.is(32, "tape(0, 0, 61)", x.tape(0, 0, 61), -2);
        due.is(32, "tape(0, 0, -1)", x.tape(0, 0, -1), -14);
        due.is(32, "tape(0, 4, MIN)", x.tape(0, 4, Integer.MIN_VALUE), -14);
        due.is(32, "peek(0, 0)", x.peek(0, 0), NO);
        for (int sort = 0; sort <= 4; sort++) {
            due.is(32, "tape of sort " + sort, x.tape(sort, sort, 60), 1);
            x.item(sort, 0, 1);
            x.item(sort, 59, 1);
            due.is(32, "tape(.., .., 61)", x.tape(sort, sort, 61), -2);
            due.is(32, "tape(.., .., -1)", x.tape(sort, sort, -1), -14);
            due.is(32, "a refused tape changes nothing", x.peek(sort, 59), 1);
            due.is(32, "tape again", x.tape(sort, sort, 60), 1);
            due.is(32, "all 0", x.peek(sort, 0), 0);
            due.is(32, "all 0", x.peek(sort, 59), 0);
            due.is(32, "no place 60", x.peek(sort, 60), NO);
        }
        due.is(32, "tape(5, 0, 0)", x.tape(5, 0, 0), 1);
        due.is(32, "item(5, 0, 1)", x.item(5, 0, 1), -13);
        due.is(32, "tape(5, -1, -9)", x.tape(5, -1, -9), 1);
        due.is(32, "item(5, 0, 1)", x.item(5, 0, 1), -11);
        due.is(32, "tape(5, -1, 99)", x.tape(5, -1, 99), 1);
        due.is(32, "tape(4, -1, 0)", x.tape(4, -1, 0), 1);
        due.is(32, "peek(4, 59)", x.peek(4, 59), NO);
    }

    private static void item() {
        Counted x = new Counted();
        long v = 0x8123456789abcdefL;
        long[] kept = {(byte) v, (short) v, (int) v, v, 1};
        due.is(33, "item(-1, 0, 0)", x.item(-1, 0, 0), -1);
        due.is(33, "item(6, 0, 0)", x.item(6, 0, 0), -1);
        due.is(33, "item(0, -1, 0)", x.item(0, -1, 0), -11);
        for (int sort = 0; sort <= 4; sort++) {
            x.tape(sort, sort, 2);
            due.is(33, "item", x.item(sort, 1, v), 1);
            due.is(33, "peek, sort " + sort, x.peek(sort, 1), kept[sort]);
            due.is(33, "peek of the other", x.peek(sort, 0), 0);
            due.is(33, "item(.., 2, 1)", x.item(sort, 2, 1), -13);
            due.is(33, "item(.., -1, 1)", x.item(sort, -1, 1), -13);
            due.is(33, "item of 0", x.item(sort, 1, 0), 1);
            due.is(33, "peek", x.peek(sort, 1), 0);
        }
        x.item(0, 0, 128);
        due.is(33, "128 as a byte", x.peek(0, 0), -128);
        x.item(1, 0, 32768);
        due.is(33, "32768 as a short", x.peek(1, 0), -32768);
        x.item(2, 0, 1L << 31);
        due.is(33, "2 to the 31 as an int", x.peek(2, 0), Integer.MIN_VALUE);
        x.item(4, 0, 1L << 40);
        due.is(33, "2 to the 40 as a boolean", x.peek(4, 0), 1);
        x.item(4, 0, -1);
        due.is(33, "-1 as a boolean", x.peek(4, 0), 1);
    }

    private static void peek() {
        Counted x = new Counted();
        due.is(34, "peek(-1, 0)", x.peek(-1, 0), NO);
        due.is(34, "peek(6, 0)", x.peek(6, 0), NO);
        due.is(34, "peek(0, 0)", x.peek(0, 0), NO);
        x.tape(0, 3, 1);
        due.is(34, "peek(0, -1)", x.peek(0, -1), NO);
        due.is(34, "peek(0, 1)", x.peek(0, 1), NO);
        due.is(34, "peek(0, MAX)", x.peek(0, Integer.MAX_VALUE), NO);
        due.is(34, "peek(0, 0)", x.peek(0, 0), 0);
        x.item(0, 0, Long.MAX_VALUE);
        due.is(34, "peek(0, 0)", x.peek(0, 0), Long.MAX_VALUE);
    }

    private static void items(Counted x, int tape, int... items) {
        for (int i = 0; i < items.length; i++) {
            due.is(35, "peek(" + tape + ", " + i + ")", x.peek(tape, i), items[i]);
        }
    }

    private static void shift() {
        Counted x = new Counted();
        for (int sort = 0; sort <= 4; sort++) {
            x.tape(0, sort, 4);
            x.tape(1, sort, 3);
            fill(x, 0, 0, 1, 0, 1, 1);
            due.is(35, "shift, sort " + sort, x.shift(0, 2, 1, 0, 2), 2);
            items(x, 1, 1, 1, 0);
            items(x, 0, 1, 0, 1, 1);
            due.is(35, "shift of all", x.shift(1, 0, 0, 1, 3), 3);
            items(x, 0, 1, 1, 1, 0);
        }
        due.is(35, "shift of none at the ends", x.shift(0, 4, 1, 3, 0), 0);
        items(x, 1, 1, 1, 0);
    }

    private static void shiftOverItself() {
        Counted x = new Counted();
        x.tape(3, 2, 5);
        fill(x, 3, 0, 1, 2, 3, 4, 5);
        due.is(35, "shift on", x.shift(3, 0, 3, 1, 4), 4);
        items(x, 3, 1, 1, 2, 3, 4);
        due.is(35, "shift back", x.shift(3, 2, 3, 0, 3), 3);
        items(x, 3, 2, 3, 4, 3, 4);
        due.is(35, "shift to where it is", x.shift(3, 0, 3, 0, 5), 5);
        items(x, 3, 2, 3, 4, 3, 4);
    }

    private static void shiftRefused() {
        Counted x = new Counted();
        due.is(35, "shift(-1, ..)", x.shift(-1, 0, 0, 0, 0), -1);
        due.is(35, "shift(.., 6, ..)", x.shift(0, 0, 6, 0, 0), -1);
        due.is(35, "both hold nothing", x.shift(0, 0, 1, 0, -1), -11);
        x.tape(0, 0, 3);
        x.tape(2, 1, 3);
        x.tape(3, 0, 2);
        x.tape(4, 0, 0);
        fill(x, 0, 0, 7, 8, 9);
        due.is(35, "to nothing", x.shift(0, 0, 1, 0, 0), -11);
        due.is(35, "from nothing", x.shift(1, 0, 0, 0, 0), -11);
        due.is(35, "of unlike sorts", x.shift(0, 0, 2, 0, -1), -12);
        due.is(35, "of unlike sorts", x.shift(2, 0, 0, 0, 0), -12);
        due.is(35, "n -1", x.shift(0, 0, 3, 0, -1), -13);
        due.is(35, "i -1", x.shift(0, -1, 3, 0, 1), -13);
        due.is(35, "j -1", x.shift(0, 0, 3, -1, 1), -13);
        due.is(35, "beyond the first's end", x.shift(0, 2, 3, 0, 2), -13);
        due.is(35, "beyond the second's end", x.shift(0, 0, 3, 1, 2), -13);
        due.is(35, "n 3 to one of 2", x.shift(0, 0, 3, 0, 3), -13);
        due.is(35, "i beyond, none", x.shift(0, 4, 3, 0, 0), -13);
        due.is(35, "j beyond, none", x.shift(0, 0, 3, 3, 0), -13);
        due.is(35, "the sum beyond an int", x.shift(0, Integer.MAX_VALUE, 3, 0, 1), -13);
        due.is(35, "the sum beyond an int", x.shift(0, 1, 3, 0, Integer.MAX_VALUE), -13);
        items(x, 3, 0, 0);
        due.is(35, "none to an empty one", x.shift(0, 0, 4, 0, 0), 0);
        due.is(35, "one to an empty one", x.shift(0, 0, 4, 0, 1), -13);
    }
}
