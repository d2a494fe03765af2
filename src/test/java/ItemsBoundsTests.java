/** The boundary cases of promises 33 to 35: items of TAPES. */
public final class ItemsBoundsTests {
    private static final Due due = new Due();
    private static final Trials trials = new Trials(due);
    private static final long NO = Long.MIN_VALUE;
    private static final int MIN = Integer.MIN_VALUE;
    private static final int MAX = Integer.MAX_VALUE;
    private static final int[] TAPES = Trials.beyond(0, 5);
    private static final int BYTES = 0, SHORTS = 1, INTS = 2, LONGS = 3, BOOLEANS = 4;

    public static void main(String[] args) {
        itemOfNoTape();
        itemWhereNothingIs();
        itemOfNoPlace();
        itemOfSeveralRefusals();
        itemOfEachPlace();
        lowestBitsOfBytes();
        lowestBitsOfShorts();
        lowestBitsOfInts();
        lowestBitsOfLongs();
        booleansAreZeroOrNot();
        peekInVain();
        peekOnlyAsks();
        shiftOfNoTape();
        shiftWhereNothingIs();
        shiftOfUnlikeSorts();
        shiftOfNoPlace();
        shiftOfSeveralRefusals();
        shiftOfNone();
        shiftOfEachSort();
        shiftOfEachNumber();
        shiftOverItself();
        shiftLeavesTheRest();
        due.end("ItemsBoundsTests");
    }

    // ---- promise 33

    /** NONE: tape (0 .. 5), whatever the rest is. */
    private static void itemOfNoTape() {
        for (int tape : TAPES) {
            for (long v : new long[] {0, 1, Long.MIN_VALUE, Long.MAX_VALUE}) {
                trials.refused(33, "item(" + tape + ", 0, " + v + ")", -1, x -> x.item(tape, 0, v));
                trials.refused(33, "item(" + tape + ", -1, " + v + ")", -1, x -> x.item(tape, -1, v));
                trials.refused(33, "item(" + tape + ", 60, " + v + ")", -1, x -> x.item(tape, 60, v));
            }
        }
    }

    /** NOTHING: nothing is there: at first, and again. */
    private static void itemWhereNothingIs() {
        for (int tape = 0; tape <= 5; tape++) {
            int t = tape;
            trials.refused(Ready.NEW, 33, "item(" + tape + ", 0, 1)", -11, x -> x.item(t, 0, 1));
            Counted x = Ready.FULL.make();
            due.is(33, "item(" + tape + ", 0, 1)", x.item(tape, 0, 1), 1);
            x.tape(tape, -1, 0);
            due.is(33, "item(" + tape + ", 0, 1), nothing", x.item(tape, 0, 1), -11);
        }
    }

    /** PLACE: no such place (0 .. how many there are, less 1). */
    private static void itemOfNoPlace() {
        for (int i : Trials.beyond(0, 59)) {
            for (int tape = 0; tape <= 5; tape++) {
                int t = tape;
                trials.refused(Ready.FULL, 33, "item(" + tape + ", " + i + ", 1)", -13, x -> x.item(t, i, 1));
            }
        }
        for (int i : new int[] {MIN, -1, 0, 1, 59, 60, MAX}) {
            for (int tape = 0; tape <= 4; tape++) {
                int t = tape;
                trials.refused(Ready.FALSE, 33, "item(" + tape + ", " + i + ", 1), no item", -13, x -> x.item(t, i, 1));
            }
        }
    }

    /** NONE is named ahead of NOTHING, NOTHING ahead of PLACE. */
    private static void itemOfSeveralRefusals() {
        for (int i : new int[] {MIN, -1, 60, MAX}) {
            trials.refused(33, "item(6, " + i + ", 1)", -1, x -> x.item(6, i, 1));
            trials.refused(Ready.NEW, 33, "item(0, " + i + ", 1)", -11, x -> x.item(0, i, 1));
            trials.refused(Ready.NEW, 33, "item(5, " + i + ", 1)", -11, x -> x.item(5, i, 1));
        }
    }

    /** Item i becomes v: 1; each of 0 .. 59, the others stay. */
    private static void itemOfEachPlace() {
        for (int sort = BYTES; sort <= BOOLEANS; sort++) {
            for (int place = 0; place <= 59; place++) {
                Counted x = new Counted();
                x.tape(0, sort, 60);
                x.tape(1, sort, 60);
                due.is(33, "item(0, " + place + ", 1)", x.item(0, place, 1), 1);
                for (int i = 0; i <= 59; i++) {
                    due.is(34, "peek(0, " + i + ")", x.peek(0, i), i == place ? 1 : 0);
                }
                due.is(34, "the other TAPE", x.peek(1, place), 0);
            }
        }
    }

    private static void keeps(int sort, long v, long kept) {
        for (int place : new int[] {0, 59}) {
            Counted x = new Counted();
            x.tape(3, sort, 60);
            due.is(33, "item(3, " + place + ", " + v + "), sort " + sort, x.item(3, place, v), 1);
            due.is(33, "item " + v + " of sort " + sort, x.peek(3, place), kept);
            x.item(3, place, ~v);
            x.item(3, place, v);
            due.is(33, "item " + v + " again", x.peek(3, place), kept);
        }
    }

    private static void lowestBitsOfBytes() {
        long[][] values = {{0, 0}, {1, 1}, {-1, -1}, {126, 126}, {127, 127}, {128, -128}, {129, -127}, {255, -1},
            {256, 0}, {257, 1}, {-127, -127}, {-128, -128}, {-129, 127}, {-256, 0}, {-257, -1}, {32767, -1},
            {32768, 0}, {65536, 0}, {Integer.MAX_VALUE, -1}, {Integer.MIN_VALUE, 0}, {1L << 32, 0},
            {(1L << 32) + 128, -128}, {Long.MAX_VALUE, -1}, {Long.MIN_VALUE, 0}, {Long.MIN_VALUE + 5, 5}};
        for (long[] value : values) {
            keeps(BYTES, value[0], value[1]);
        }
    }

    private static void lowestBitsOfShorts() {
        long[][] values = {{0, 0}, {-1, -1}, {128, 128}, {256, 256}, {32766, 32766}, {32767, 32767}, {32768, -32768},
            {32769, -32767}, {65535, -1}, {65536, 0}, {65537, 1}, {-32767, -32767}, {-32768, -32768}, {-32769, 32767},
            {-65536, 0}, {Integer.MAX_VALUE, -1}, {Integer.MIN_VALUE, 0}, {1L << 32, 0}, {(1L << 32) + 32768, -32768},
            {Long.MAX_VALUE, -1}, {Long.MIN_VALUE, 0}, {Long.MIN_VALUE + 5, 5}};
        for (long[] value : values) {
            keeps(SHORTS, value[0], value[1]);
        }
    }

    private static void lowestBitsOfInts() {
        long[][] values = {{0, 0}, {-1, -1}, {32768, 32768}, {65536, 65536}, {MAX, MAX}, {MAX + 1L, MIN},
            {MAX + 2L, MIN + 1}, {(1L << 32) - 1, -1}, {1L << 32, 0}, {(1L << 32) + 1, 1}, {MIN, MIN}, {MIN - 1L, MAX},
            {-(1L << 32), 0}, {Long.MAX_VALUE, -1}, {Long.MIN_VALUE, 0}, {Long.MIN_VALUE + 5, 5}};
        for (long[] value : values) {
            keeps(INTS, value[0], value[1]);
        }
    }

    private static void lowestBitsOfLongs() {
        long[] values = {0, 1, -1, 128, 32768, MAX, MAX + 1L, MIN, MIN - 1L, (1L << 32) - 1, 1L << 32, 1L << 52, 1L << 53,
            (1L << 53) + 1, 1L << 62, Long.MAX_VALUE - 1, Long.MAX_VALUE, Long.MIN_VALUE + 1, Long.MIN_VALUE};
        for (long value : values) {
            keeps(LONGS, value, value);
        }
    }

    /** Booleans: whether v is not 0: also one whose lowest bits are 0. */
    private static void booleansAreZeroOrNot() {
        keeps(BOOLEANS, 0, 0);
        long[] values = {1, 2, -1, -2, 128, 256, 32768, 65536, MAX, MIN, 1L << 31, 1L << 32, 1L << 40, 1L << 63,
            Long.MAX_VALUE, Long.MIN_VALUE};
        for (long value : values) {
            keeps(BOOLEANS, value, 1);
        }
    }

    // ---- promise 34

    /** NO: no such TAPE, nothing there, no such place. */
    private static void peekInVain() {
        for (int tape : TAPES) {
            trials.refused(34, "peek(" + tape + ", 0)", NO, x -> x.peek(tape, 0));
            trials.refused(34, "peek(" + tape + ", -1)", NO, x -> x.peek(tape, -1));
        }
        for (int i : new int[] {MIN, -1, 0, 1, 59, 60, MAX}) {
            for (int tape = 0; tape <= 5; tape++) {
                int t = tape;
                trials.refused(Ready.NEW, 34, "peek(" + tape + ", " + i + "), nothing", NO, x -> x.peek(t, i));
                trials.refused(Ready.FALSE, 34, "peek(" + tape + ", " + i + "), no item", NO, x -> x.peek(t, i));
            }
        }
        for (int i : Trials.beyond(0, 59)) {
            for (int tape = 0; tape <= 5; tape++) {
                int t = tape;
                trials.refused(Ready.FULL, 34, "peek(" + tape + ", " + i + ")", NO, x -> x.peek(t, i));
            }
        }
    }

    private static void peekOnlyAsks() {
        for (int tape = 0; tape <= 5; tape++) {
            int t = tape;
            trials.asks(34, "peek(" + tape + ", 0)", x -> x.peek(t, 0));
            trials.asks(34, "peek(" + tape + ", 59)", x -> x.peek(t, 59));
        }
    }

    // ---- promise 35

    /** NONE: tapes, the one or the other or both, whatever the rest is. */
    private static void shiftOfNoTape() {
        for (int tape : TAPES) {
            trials.refused(35, "shift(" + tape + ", 0, 0, 0, 1)", -1, x -> x.shift(tape, 0, 0, 0, 1));
            trials.refused(35, "shift(0, 0, " + tape + ", 0, 1)", -1, x -> x.shift(0, 0, tape, 0, 1));
            trials.refused(35, "shift(5, 0, " + tape + ", 0, 0)", -1, x -> x.shift(5, 0, tape, 0, 0));
            trials.refused(35, "shift(" + tape + ", 0, twice, 0, 0)", -1, x -> x.shift(tape, 0, tape, 0, 0));
            trials.refused(35, "shift(" + tape + ", -1, 1, -1, -1)", -1, x -> x.shift(tape, -1, 1, -1, -1));
        }
    }

    /** NOTHING: from nothing, to nothing, both; one TAPE that holds nothing to itself. */
    private static void shiftWhereNothingIs() {
        trials.refused(Ready.NEW, 35, "shift(0, 0, 1, 0, 0)", -11, x -> x.shift(0, 0, 1, 0, 0));
        trials.refused(Ready.NEW, 35, "shift(5, 0, 5, 0, 0)", -11, x -> x.shift(5, 0, 5, 0, 0));
        trials.refused(Ready.TRUE, 35, "shift(0, 0, 1, 0, 0), to nothing", -11, x -> x.shift(0, 0, 1, 0, 0));
        trials.refused(Ready.TRUE, 35, "shift(1, 0, 0, 0, 0), from nothing", -11, x -> x.shift(1, 0, 0, 0, 0));
        trials.refused(Ready.ODD, 35, "shift(5, 55, 0, 0, 5), to nothing", -11, x -> x.shift(5, 55, 0, 0, 5));
        trials.refused(Ready.ODD, 35, "shift(0, 0, 4, 0, 1), from nothing", -11, x -> x.shift(0, 0, 4, 0, 1));
    }

    /** CAST: of unlike sorts: each two of them, also if there is no item. */
    private static void shiftOfUnlikeSorts() {
        for (int one = 0; one <= 4; one++) {
            for (int other = 0; other <= 4; other++) {
                int a = one;
                int b = other;
                if (one != other) {
                    String name = "shift(" + one + ", 0, " + other + ", 0, ";
                    trials.refused(Ready.FULL, 35, name + "1)", -12, x -> x.shift(a, 0, b, 0, 1));
                    trials.refused(Ready.FULL, 35, name + "0)", -12, x -> x.shift(a, 0, b, 0, 0));
                    trials.refused(Ready.FALSE, 35, name + "0)", -12, x -> x.shift(a, 0, b, 0, 0));
                }
            }
        }
        due.is(35, "two rows of bytes", Ready.FULL.make().shift(0, 0, 5, 0, 1), 1);
    }

    /** PLACE: n, i or j is below 0, or beyond either's end. */
    private static void shiftOfNoPlace() {
        for (int far : new int[] {-1, -2, -60, -256, MIN, MIN + 1}) {
            trials.refused(Ready.FULL, 35, "shift, n " + far, -13, x -> x.shift(0, 1, 5, 1, far));
            trials.refused(Ready.FULL, 35, "shift, i " + far, -13, x -> x.shift(0, far, 5, 1, 1));
            trials.refused(Ready.FULL, 35, "shift, j " + far, -13, x -> x.shift(0, 1, 5, far, 1));
            trials.refused(Ready.FULL, 35, "shift of none, i " + far, -13, x -> x.shift(0, far, 5, 1, 0));
            trials.refused(Ready.FULL, 35, "shift of none, j " + far, -13, x -> x.shift(0, 1, 5, far, 0));
        }
        for (int far : new int[] {61, 62, 256, 316, 65536, MAX - 1, MAX}) {
            trials.refused(Ready.FULL, 35, "shift, n " + far, -13, x -> x.shift(0, 0, 5, 0, far));
            trials.refused(Ready.FULL, 35, "shift, i " + far, -13, x -> x.shift(0, far, 5, 0, 0));
            trials.refused(Ready.FULL, 35, "shift, j " + far, -13, x -> x.shift(0, 0, 5, far, 0));
            trials.refused(Ready.FULL, 35, "shift, i and n " + far, -13, x -> x.shift(0, far, 5, 0, far));
            trials.refused(Ready.FULL, 35, "shift, j and n " + far, -13, x -> x.shift(0, 0, 5, far, far));
            trials.refused(Ready.FULL, 35, "shift of one, i " + far, -13, x -> x.shift(0, far, 5, 0, 1));
            trials.refused(Ready.FULL, 35, "shift of one, j " + far, -13, x -> x.shift(0, 0, 5, far, 1));
        }
        for (int i = 0; i <= 60; i++) {
            int from = i;
            trials.refused(Ready.FULL, 35, "one too many from " + i, -13, x -> x.shift(0, from, 5, 0, 61 - from));
            trials.refused(Ready.FULL, 35, "one too many to " + i, -13, x -> x.shift(0, 0, 5, from, 61 - from));
        }
        trials.refused(Ready.FALSE, 35, "one of no item", -13, x -> x.shift(0, 0, 0, 0, 1));
        trials.refused(Ready.FALSE, 35, "none from 1 of no item", -13, x -> x.shift(0, 1, 0, 0, 0));
        trials.refused(Ready.FALSE, 35, "none to 1 of no item", -13, x -> x.shift(0, 0, 0, 1, 0));
    }

    /** NONE is named ahead of NOTHING, NOTHING ahead of CAST, CAST ahead of PLACE. */
    private static void shiftOfSeveralRefusals() {
        for (int far : new int[] {-1, 61, MIN, MAX}) {
            trials.refused(Ready.NEW, 35, "NONE, NOTHING, PLACE", -1, x -> x.shift(6, far, 0, far, far));
            trials.refused(Ready.NEW, 35, "NONE, NOTHING, PLACE", -1, x -> x.shift(0, far, 6, far, far));
            trials.refused(Ready.NEW, 35, "NOTHING, PLACE", -11, x -> x.shift(0, far, 1, far, far));
            trials.refused(Ready.TRUE, 35, "NOTHING, PLACE", -11, x -> x.shift(3, far, 1, far, far));
            trials.refused(Ready.TRUE, 35, "NOTHING, PLACE", -11, x -> x.shift(1, far, 3, far, far));
            trials.refused(Ready.FULL, 35, "CAST, PLACE", -12, x -> x.shift(0, far, 1, far, far));
            trials.refused(Ready.FULL, 35, "CAST, PLACE", -12, x -> x.shift(4, 0, 3, far, 1));
        }
    }

    /** 0 items: 0, from 0 up to the ends, also of TAPES of no item; nothing changes. */
    private static void shiftOfNone() {
        for (int i = 0; i <= 60; i += 30) {
            for (int j = 0; j <= 60; j += 30) {
                int from = i;
                int to = j;
                trials.refused(Ready.FULL, 35, "none from " + i + " to " + j, 0, x -> x.shift(0, from, 5, to, 0));
                trials.refused(Ready.FULL, 35, "none within one", 0, x -> x.shift(3, from, 3, to, 0));
            }
        }
        for (int tape = 0; tape <= 4; tape++) {
            int t = tape;
            trials.refused(Ready.FALSE, 35, "none of no item", 0, x -> x.shift(t, 0, t, 0, 0));
        }
    }

    /** n: of each sort, the items as they are. */
    private static void shiftOfEachSort() {
        long[] values = {Long.MIN_VALUE, -129, -1, 0, 1, 128, 65535, Long.MAX_VALUE};
        for (int sort = BYTES; sort <= BOOLEANS; sort++) {
            Counted x = new Counted();
            x.tape(1, sort, 8);
            x.tape(4, sort, 10);
            x.items(1, 0, values);
            due.is(35, "shift of all, sort " + sort, x.shift(1, 0, 4, 1, 8), 8);
            for (int i = 0; i < 8; i++) {
                due.is(35, "item " + i + " of sort " + sort, x.peek(4, i + 1), x.peek(1, i));
            }
            due.is(35, "ahead of them", x.peek(4, 0), 0);
            due.is(35, "behind them", x.peek(4, 9), 0);
        }
    }

    /** Each n of 0 .. 60, from the beginning to the end. */
    private static void shiftOfEachNumber() {
        for (int n = 0; n <= 60; n++) {
            Counted x = new Counted();
            x.tape(0, INTS, 60);
            x.tape(1, INTS, 60);
            for (int i = 0; i < 60; i++) {
                x.item(0, i, i + 1);
            }
            due.is(35, "shift(0, 0, 1, " + (60 - n) + ", " + n + ")", x.shift(0, 0, 1, 60 - n, n), n);
            for (int i = 0; i < 60; i++) {
                due.is(35, "item " + i, x.peek(1, i), i < 60 - n ? 0 : i + 1 - (60 - n));
            }
            due.is(35, "shift(0, .., 1, 0, " + n + ")", x.shift(0, 60 - n, 1, 0, n), n);
            for (int i = 0; i < n; i++) {
                due.is(35, "item " + i, x.peek(1, i), 60 - n + i + 1);
            }
        }
    }

    /** Within one TAPE, as they all were before: on, back, to where they are. */
    private static void shiftOverItself() {
        for (int sort = BYTES; sort <= LONGS; sort++) {
            for (int i = 0; i <= 6; i++) {
                for (int j = 0; j <= 6; j++) {
                    for (int n = 0; n <= 6 - Math.max(i, j); n++) {
                        Counted x = new Counted();
                        x.tape(2, sort, 6);
                        x.items(2, 0, 1, 2, 3, 4, 5, 6);
                        due.is(35, "shift(2, " + i + ", 2, " + j + ", " + n + ")", x.shift(2, i, 2, j, n), n);
                        for (int k = 0; k < 6; k++) {
                            due.is(35, "item " + k, x.peek(2, k), k >= j && k < j + n ? k - j + i + 1 : k + 1);
                        }
                    }
                }
            }
        }
    }

    /** The row they come from stays, and so do the other TAPES; both rows stay of their own. */
    private static void shiftLeavesTheRest() {
        Counted x = new Counted();
        for (int tape = 0; tape <= 2; tape++) {
            x.tape(tape, BYTES, 3);
            x.items(tape, 0, tape + 1, tape + 2, tape + 3);
        }
        due.is(35, "shift", x.shift(0, 0, 1, 0, 3), 3);
        for (int i = 0; i < 3; i++) {
            due.is(35, "from", x.peek(0, i), i + 1);
            due.is(35, "to", x.peek(1, i), i + 1);
            due.is(35, "another one", x.peek(2, i), i + 3);
        }
        x.item(0, 0, 9);
        due.is(35, "the other one stays", x.peek(1, 0), 1);
        x.item(1, 1, 8);
        due.is(35, "the first one stays", x.peek(0, 1), 2);
    }
}
