/** The boundary cases of promises 28 to 35, and of what "Terms" 2 and 3 say of THE IMAGE, TAPES, JUDGED. */
public final class TapesBoundsTests {
    private static final Due due = new Due();
    private static final Trials trials = new Trials(due);
    private static final long NO = Long.MIN_VALUE;
    private static final int MIN = Integer.MIN_VALUE;
    private static final int MAX = Integer.MAX_VALUE;
    private static final int[] TAPES = Trials.beyond(0, 5);
    private static final int BYTES = 0, SHORTS = 1, INTS = 2, LONGS = 3, BOOLEANS = 4;

    public static void main(String[] args) {
        judgeInVain();
        judgeNoRowOfBytes();
        judgeOfSeveralRefusals();
        judgeWhereNothingIs();
        judgeFromBelowZero();
        judgeUpToTheEnd();
        judgeTheFirstOther();
        judgeOfEachRowAndTape();
        judgeItemsThatAreNoBells();
        judgeOnlyAsks();
        imageTellsHowMany();
        imageHoldsWhatIsNamed();
        imageIsOfItsOwn();
        imageIsTheLastOne();
        undoWithoutAnImage();
        undoIsAllAsTheImage();
        undoAgainAndAgain();
        undoLeavesTheRest();
        countInVain();
        countOfEach();
        countOnlyAsks();
        tapeOfNoNumber();
        tapeRefusedAsBad();
        tapeOfNoSize();
        tapeOfSeveralRefusals();
        tapeOfEachSortAndSize();
        tapeHoldsNothing();
        tapeIsAllZeroThen();
        due.end("TapesBoundsTests");
    }

    // ---- promise 28

    /** NONE: row, tape (0 .. 5); both at once, too. */
    private static void judgeInVain() {
        for (Ready ready : Ready.values()) {
            for (int row : Trials.beyond(0, ready.last)) {
                trials.refused(ready, 28, "judge(" + row + ", 0, 0)", -1, x -> x.judge(row, 0, 0));
                trials.refused(ready, 28, "judge(" + row + ", 5, -1)", -1, x -> x.judge(row, 5, -1));
            }
        }
        for (int tape : TAPES) {
            trials.refused(28, "judge(0, " + tape + ", 0)", -1, x -> x.judge(0, tape, 0));
            trials.refused(28, "judge(0, " + tape + ", -1)", -1, x -> x.judge(0, tape, -1));
            trials.refused(28, "judge(-1, " + tape + ", 0)", -1, x -> x.judge(-1, tape, 0));
        }
    }

    /** CAST: it is no row of bytes: each other sort, of no item, of 60. */
    private static void judgeNoRowOfBytes() {
        for (int sort = SHORTS; sort <= BOOLEANS; sort++) {
            for (int n : new int[] {0, 1, 6, 60}) {
                Counted x = new Counted();
                x.tape(2, sort, n);
                x.items(2, 0, 1, 2, 3, 4, 5, 6);
                for (int i : new int[] {0, 59, 60, -1, MIN, MAX}) {
                    due.is(28, "judge(0, 2, " + i + "), sort " + sort + " of " + n, x.judge(0, 2, i), -12);
                }
            }
        }
        for (int tape = 1; tape <= 4; tape++) {
            int other = tape;
            trials.refused(Ready.FULL, 28, "judge(0, " + tape + ", 0)", -12, x -> x.judge(0, other, 0));
        }
    }

    /** NONE is named ahead of CAST; CAST is answered also for a place below 0. */
    private static void judgeOfSeveralRefusals() {
        for (int row : new int[] {-1, 193, MIN, MAX}) {
            trials.refused(Ready.FULL, 28, "judge(" + row + ", 1, 0)", -1, x -> x.judge(row, 1, 0));
        }
        trials.refused(Ready.FULL, 28, "judge(0, 1, -1)", -12, x -> x.judge(0, 1, -1));
        trials.refused(Ready.FULL, 28, "judge(192, 4, MIN)", -12, x -> x.judge(192, 4, MIN));
    }

    /** 100, if the TAPE holds nothing: at first, and again. */
    private static void judgeWhereNothingIs() {
        for (int tape = 0; tape <= 5; tape++) {
            Counted x = new Counted();
            for (int i : new int[] {0, 1, 60, -1, MIN, MAX}) {
                due.is(28, "judge(0, " + tape + ", " + i + "), nothing", x.judge(0, tape, i), 100);
            }
            x.tape(tape, LONGS, 60);
            due.is(28, "longs", x.judge(0, tape, 0), -12);
            x.tape(tape, -1, 60);
            due.is(28, "nothing again", x.judge(0, tape, 0), 100);
            due.is(28, "no ROW 1 on nothing", x.judge(1, tape, 0), -1);
        }
    }

    /** 100, if the place is below 0. */
    private static void judgeFromBelowZero() {
        Counted x = new Counted();
        x.tape(0, BYTES, 60);
        x.items(0, 0, 1, 2, 3, 4, 5, 6);
        due.is(28, "judge(0, 0, 0)", x.judge(0, 0, 0), -5);
        for (int i : new int[] {-1, -2, -60, -256, MIN, MIN + 1, 0 - MAX}) {
            due.is(28, "judge(0, 0, " + i + ")", x.judge(0, 0, i), 100);
        }
    }

    /** 100 and how many were looked at, if the row ends ahead of that: each number, of each n. */
    private static void judgeUpToTheEnd() {
        for (int n = 4; n <= 8; n++) {
            for (int length = 0; length <= n + 1; length++) {
                for (int i = 0; i <= 2; i++) {
                    Counted x = new Counted();
                    x.bells(n);
                    x.tape(1, BYTES, length + i);
                    x.items(1, i, 1, 2, 3, 4, 5, 6, 7, 8, 9);
                    int judged = length >= n ? -5 : 100 + length;
                    due.is(28, "judge(0, 1, " + i + ") of " + length + ", n " + n, x.judge(0, 1, i), judged);
                }
            }
            Counted x = new Counted();
            x.bells(n);
            x.tape(1, BYTES, 60);
            x.items(1, 60 - n, 1, 2, 3, 4, 5, 6, 7, 8);
            due.is(28, "up to the end of 60", x.judge(0, 1, 60 - n), -5);
            x.items(1, 61 - n, 1, 2, 3, 4, 5, 6, 7);
            due.is(28, "one beyond the end of 60", x.judge(0, 1, 61 - n), 100 + n - 1);
            x.item(1, 59, 1);
            due.is(28, "from 59", x.judge(0, 1, 59), 101);
            for (int i : new int[] {60, 61, 256, MAX - 8, MAX - 1, MAX}) {
                due.is(28, "judge(0, 1, " + i + ")", x.judge(0, 1, i), 100);
            }
        }
    }

    /** The first PLACE (1 ..) whose BELL is another: each; ahead of the end, and of one behind it. */
    private static void judgeTheFirstOther() {
        for (int n = 4; n <= 8; n++) {
            for (int wrong = 1; wrong <= n; wrong++) {
                Counted x = new Counted();
                x.bells(n);
                x.tape(0, BYTES, n);
                x.items(0, 0, 1, 2, 3, 4, 5, 6, 7, 8);
                x.item(0, wrong - 1, wrong % 8 + 1);
                due.is(28, "another BELL in PLACE " + wrong + " of " + n, x.judge(0, 0, 0), wrong);
                x.item(0, n - 1, 0);
                due.is(28, "and in the last one", x.judge(0, 0, 0), wrong);
                x.tape(0, BYTES, wrong);
                x.items(0, 0, 1, 2, 3, 4, 5, 6, 7, 8);
                x.item(0, wrong - 1, 0);
                due.is(28, "and then the end", x.judge(0, 0, 0), wrong);
            }
        }
    }

    /** Each TAPE, each ROW: what at tells of it is so. */
    private static void judgeOfEachRowAndTape() {
        for (int row = 0; row <= 192; row += row < 190 ? 19 : 1) {
            Counted x = Ready.FULL.make();
            int tape = row % 6;
            x.tape(tape, BYTES, 9);
            for (int place = 1; place <= 8; place++) {
                x.item(tape, place, x.at(row, place));
            }
            due.is(28, "judge of ROW " + row, x.judge(row, tape, 1), -5);
            due.is(28, "judge of ROW " + row + " from 0", x.judge(row, tape, 0), 1);
            due.is(28, "judge of ROW 0", x.judge(0, tape, 1), firstOther(x, row, 0));
            due.is(28, "judge of ROW 192", x.judge(192, tape, 1), firstOther(x, row, 192));
            due.is(28, "no ROW 193", x.judge(193, tape, 1), -1);
        }
    }

    private static int firstOther(Counted x, int row, int other) {
        for (int place = 1; place <= 8; place++) {
            if (x.at(row, place) != x.at(other, place)) {
                return place;
            }
        }
        return -5;
    }

    /** An item that is no BELL is another: 0, above n, below 0; its lowest bits count alone. */
    private static void judgeItemsThatAreNoBells() {
        for (long v : new long[] {0, 2, 7, 9, 16, 17, 127, 128, 255, -1, -128, Long.MAX_VALUE, Long.MIN_VALUE}) {
            Counted x = new Counted();
            x.tape(0, BYTES, 6);
            x.items(0, 0, 1, 2, 3, 4, 5, 6);
            x.item(0, 0, v);
            due.is(28, "item " + v + " as BELL 1", x.judge(0, 0, 0), 1);
            x.item(0, 0, 1);
            x.item(0, 5, v);
            due.is(28, "item " + v + " as BELL 6", x.judge(0, 0, 0), 6);
        }
        Counted x = new Counted();
        x.tape(0, BYTES, 6);
        x.items(0, 0, 257, 2 - 256, 3 + 65536, 4 + (1L << 32), 5 + Long.MIN_VALUE, 6 - 512);
        due.is(28, "lowest bits", x.judge(0, 0, 0), -5);
    }

    private static void judgeOnlyAsks() {
        for (int tape = 0; tape <= 5; tape++) {
            for (int i = -1; i <= 1; i++) {
                int told = tape;
                int from = i;
                trials.asks(28, "judge(0, " + tape + ", " + i + ")", x -> x.judge(0, told, from));
                trials.asks(28, "judge(1, " + tape + ", " + i + ")", x -> x.judge(1, told, from));
            }
        }
    }

    // ---- promises 29 and 30

    /** How many CHANGES there are: 0 .. 16. */
    private static void imageTellsHowMany() {
        Counted x = new Counted();
        x.bells(8);
        for (int changes = 0; changes <= 16; changes++) {
            due.is(29, "image() of " + changes, x.image(), changes);
            due.is(30, "undo() of " + changes, x.undo(), changes);
            x.change(255);
        }
        for (Ready ready : Ready.values()) {
            due.is(29, ready + ": image()", ready.make().image(), ready.changes);
        }
    }

    /** An IMAGE changes nothing but THE IMAGE: as it was, if it is taken and gone back to at once. */
    private static void imageHoldsWhatIsNamed() {
        for (Ready ready : Ready.values()) {
            String once = Views.of(ready, x -> x.image());
            String again = Views.of(ready, x -> {
                due.is(29, ready + ": image()", x.image(), ready.changes);
                due.is(29, ready + ": image() again", x.image(), ready.changes);
                due.is(30, ready + ": undo()", x.undo(), ready.changes);
                due.is(30, ready + ": undo() again", x.undo(), ready.changes);
            });
            due.unchanged(29, ready + ": image()", once, again);
            due.unchanged(29, ready + ": image(), but for undo", withoutUndo(Views.of(ready)), withoutUndo(again));
            String gone = Views.of(ready, x -> {
                x.image();
                x.bells(7);
                x.reads("n4;mx14;b12;s34;cbsb");
                x.pattern(4, 4);
                x.see(0, 2, 3);
                x.event(0, 3);
                x.book(2, 2);
                due.is(30, ready + ": undo()", x.undo(), ready.changes);
            });
            String emptied = Views.of(ready, x -> {
                x.image();
                x.read();
                x.undo();
            });
            due.unchanged(30, ready + ": undo() of all", emptied, gone);
        }
    }

    /** The sides that don't go back to THE IMAGE. */
    private static String withoutUndo(String sides) {
        return sides.substring(0, sides.indexOf("side 6"));
    }

    /** What changes behind it is not in it: each thing for itself. */
    private static void imageIsOfItsOwn() {
        Views.Deed[] deeds = {x -> x.bells(8), x -> x.bells(4), x -> x.change((1 << x.told(0)) - 1),
            x -> x.calls(1, (1 << x.told(0)) - 1), x -> x.calls(1, -1), x -> x.calls(2, -1), x -> x.call(0, 2),
            x -> x.call(11, 1), x -> x.leads(12), x -> x.leads(1), x -> x.pattern(1, 8), x -> x.pattern(8, 1),
            x -> x.see(-1, 0, 0), x -> x.see(0, 1, 2), x -> x.event(-1, 0), x -> x.event(3, 2), x -> x.book(-1, 0),
            x -> x.book(0, 2)};
        for (Ready ready : Ready.values()) {
            String before = Views.of(ready, x -> x.image());
            for (int i = 0; i < deeds.length; i++) {
                Views.Deed deed = deeds[i];
                due.unchanged(30, ready + ": undo() of the deed " + i, before, Views.of(ready, x -> {
                    x.image();
                    deed.to(x);
                    due.is(30, ready + ": undo()", x.undo(), ready.changes);
                }));
            }
        }
    }

    /** THE IMAGE is the last one that was taken. */
    private static void imageIsTheLastOne() {
        Counted x = new Counted();
        x.reads("mx;b14");
        due.is(29, "image()", x.image(), 1);
        x.reads("n4;mx14.12;cbb");
        due.is(29, "image() again", x.image(), 3);
        x.reads("n8;m12");
        due.is(30, "undo()", x.undo(), 3);
        due.is(30, "n", x.told(0), 4);
        due.is(30, "LEADS", x.told(2), 2);
        due.is(30, "no BOB", x.of(1, 0), -5);
        x.bells(5);
        due.is(29, "image() without CHANGES", x.image(), 0);
        x.bells(8);
        due.is(30, "undo() to no CHANGES", x.undo(), 0);
        due.is(30, "n", x.told(0), 5);
    }

    /** STATE: there is none. */
    private static void undoWithoutAnImage() {
        trials.refused(Ready.NEW, 30, "undo()", -3, x -> x.undo());
        trials.refused(Ready.BARE, 30, "undo()", -3, x -> x.undo());
        Counted x = new Counted();
        due.is(30, "undo()", x.undo(), -3);
        x.image();
        due.is(30, "undo() of an IMAGE of a new one", x.undo(), 0);
    }

    /** All is as THE IMAGE, each of what it holds. */
    private static void undoIsAllAsTheImage() {
        Counted x = Ready.FULL.make();
        due.is(30, "undo()", x.undo(), 5);
        due.is(30, "n", x.told(0), 7);
        int[] changes = {64, 1, 64, 4, 64};
        for (int k = 0; k <= 4; k++) {
            due.is(30, "of(0, " + k + ")", x.of(0, k), changes[k]);
        }
        due.is(30, "of(0, 5)", x.of(0, 5), -1);
        due.is(30, "BOB", x.of(1, 0), 1 | 8 | 64);
        due.is(30, "SINGLE", x.of(2, 0), -5);
        int[] calls = {1, 0, 1, 0, 0, 0, 0, 0, 0, 0, 0, 0};
        for (int lead = 0; lead <= 11; lead++) {
            due.is(30, "of(3, " + lead + ")", x.of(3, lead), calls[lead]);
        }
        due.is(30, "LEADS", x.told(2), 3);
        due.is(30, "the last ROW", x.told(3), 15);
        due.is(30, "count(0)", x.count(0), 1);
        due.is(30, "count(1)", x.count(1), 1);
        due.is(30, "count(2)", x.count(2), 1);
        due.is(30, "the second of SEEN", x.see(0, 1, 1), 2);
        due.is(30, "the second of EVENTS", x.event(3, 1), 2);
        due.is(30, "the second of the BOOK", x.book(0, 1), 2);
        for (int place = 1; place <= 8; place++) {
            due.is(30, "PATTERN of PLACE " + place, x.pattern(place, 0), place == 2 ? 2 : 0);
        }
    }

    /** THE IMAGE stays by undo, and by bells. */
    private static void undoAgainAndAgain() {
        Counted x = Ready.TRUE.make();
        for (int i = 0; i < 5; i++) {
            due.is(30, "undo() again", x.undo(), 5);
            due.is(30, "n", x.told(0), 4);
            x.bells(4 + i % 5);
            x.change((1 << (4 + i % 5)) - 1);
        }
    }

    /** THE TEXT and TAPES are not in THE IMAGE. */
    private static void undoLeavesTheRest() {
        for (Ready ready : Ready.values()) {
            if (ready.hasImage()) {
                Counted x = ready.make();
                Counted y = ready.make();
                x.undo();
                due.is(30, ready + ": THE TEXT stays", x.count(3), y.count(3));
                for (int tape = 0; tape <= 5; tape++) {
                    for (int i : new int[] {0, 1, 2, 55, 58, 59, 60}) {
                        String item = ready + ": item " + i + " of TAPE " + tape + " stays";
                        due.is(30, item, x.peek(tape, i), y.peek(tape, i));
                    }
                }
                due.is(30, ready + ": read()", x.read(), readOf(ready));
            }
        }
        Counted x = new Counted();
        x.image();
        x.feeds("n4");
        x.tape(0, INTS, 1);
        x.item(0, 0, 5);
        x.undo();
        due.is(30, "count(3)", x.count(3), 2);
        due.is(30, "peek(0, 0)", x.peek(0, 0), 5);
    }

    private static int readOf(Ready ready) {
        switch (ready) {
            case TRUE:
                return 1;
            case ODD:
                return -10 - 5;
            case FALSE:
                return -10;
            default:
                return 4;
        }
    }

    // ---- promise 31

    /** BAD: what (0 .. 3). */
    private static void countInVain() {
        for (int what : Trials.beyond(0, 3)) {
            trials.refused(31, "count(" + what + ")", -2, x -> x.count(what));
        }
    }

    /** 0 SEEN (up to 5), 1 EVENTS (8), 2 of the BOOK (8), 3 bytes of THE TEXT (100). */
    private static void countOfEach() {
        int[] most = {5, 8, 8, 100};
        for (int what = 0; what <= 3; what++) {
            Counted x = new Counted();
            for (int i = 0; i <= most[what] + 1; i++) {
                for (int other = 0; other <= 3; other++) {
                    int due31 = other == what ? Math.min(i, most[what]) : 0;
                    if (i < 20 || i > 95) {
                        due.is(31, "count(" + other + ")", x.count(other), due31);
                    }
                }
                int answer = what == 0 ? x.see(0, 1, 1) : what == 1 ? x.event(3, 1) : what == 2 ? x.book(0, 1) : x.feed(0);
                due.is(31, "one more", answer, i < most[what] ? i + 1 : -4);
            }
        }
        int[][] counts = {{0, 0, 0, 0}, {2, 2, 2, 9}, {1, 1, 2, 6}, {1, 0, 0, 1}, {1, 1, 2, 0}, {5, 8, 8, 100}};
        for (Ready ready : Ready.values()) {
            for (int what = 0; what <= 3; what++) {
                due.is(31, ready + ": count(" + what + ")", ready.make().count(what), counts[ready.ordinal()][what]);
            }
        }
    }

    private static void countOnlyAsks() {
        for (int what = 0; what <= 3; what++) {
            int asked = what;
            trials.asks(31, "count(" + what + ")", x -> x.count(asked));
        }
    }

    // ---- promise 32

    /** NONE: tape (0 .. 5), whatever the rest is. */
    private static void tapeOfNoNumber() {
        for (int tape : TAPES) {
            trials.refused(32, "tape(" + tape + ", 0, 1)", -1, x -> x.tape(tape, 0, 1));
            trials.refused(32, "tape(" + tape + ", -1, 0)", -1, x -> x.tape(tape, -1, 0));
            trials.refused(32, "tape(" + tape + ", 5, 61)", -1, x -> x.tape(tape, 5, 61));
            trials.refused(32, "tape(" + tape + ", 0, -1)", -1, x -> x.tape(tape, 0, -1));
        }
    }

    /** BAD: sort (0 .. 4; -1 is told apart), n above 60. */
    private static void tapeRefusedAsBad() {
        for (int sort : Trials.beyond(-1, 4)) {
            trials.refused(32, "tape(0, " + sort + ", 1)", -2, x -> x.tape(0, sort, 1));
            trials.refused(32, "tape(5, " + sort + ", 0)", -2, x -> x.tape(5, sort, 0));
        }
        for (int sort = BYTES; sort <= BOOLEANS; sort++) {
            for (int n : new int[] {61, 62, 100, 256, 316, 65536, MAX - 1, MAX}) {
                int s = sort;
                trials.refused(32, "tape(0, " + sort + ", " + n + ")", -2, x -> x.tape(0, s, n));
                trials.refused(32, "tape(5, " + sort + ", " + n + ")", -2, x -> x.tape(5, s, n));
            }
        }
    }

    /** SIZE: a size below 0. */
    private static void tapeOfNoSize() {
        for (int sort = BYTES; sort <= BOOLEANS; sort++) {
            for (int n : new int[] {-1, -2, -60, -61, -256, -65536, MIN + 1, MIN}) {
                int s = sort;
                trials.refused(32, "tape(0, " + sort + ", " + n + ")", -14, x -> x.tape(0, s, n));
                trials.refused(32, "tape(5, " + sort + ", " + n + ")", -14, x -> x.tape(5, s, n));
            }
        }
    }

    /** NONE is named ahead of BAD, BAD ahead of SIZE. */
    private static void tapeOfSeveralRefusals() {
        for (int n : new int[] {-1, MIN, 61, MAX}) {
            for (int sort : new int[] {-2, 5, MIN, MAX}) {
                trials.refused(32, "tape(0, " + sort + ", " + n + ")", -2, x -> x.tape(0, sort, n));
                trials.refused(32, "tape(6, " + sort + ", " + n + ")", -1, x -> x.tape(6, sort, n));
                trials.refused(32, "tape(-1, " + sort + ", " + n + ")", -1, x -> x.tape(-1, sort, n));
            }
            trials.refused(32, "tape(6, 0, " + n + ")", -1, x -> x.tape(6, 0, n));
        }
    }

    /** A TAPE (0 .. 5) becomes a row of n (0 .. 60) of a sort (0 .. 4), all 0: 1; the others stay. */
    private static void tapeOfEachSortAndSize() {
        for (int tape = 0; tape <= 5; tape++) {
            for (int sort = BYTES; sort <= BOOLEANS; sort++) {
                for (int n = 0; n <= 60; n++) {
                    Counted x = new Counted();
                    due.is(32, "tape(" + tape + ", " + sort + ", " + n + ")", x.tape(tape, sort, n), 1);
                    due.is(34, "no item -1", x.peek(tape, -1), NO);
                    for (int i = 0; i < n; i++) {
                        due.is(32, "item " + i, x.peek(tape, i), 0);
                    }
                    due.is(34, "no item " + n, x.peek(tape, n), NO);
                    due.is(33, "no item " + n, x.item(tape, n, 1), -13);
                    due.is(33, "the last item", x.item(tape, n - 1, 1), n == 0 ? -13 : 1);
                    due.is(33, "nothing on another one", x.item((tape + 1) % 6, 0, 1), -11);
                }
            }
        }
    }

    /** Sort -1: it holds nothing; n does not matter. */
    private static void tapeHoldsNothing() {
        for (Ready ready : Ready.values()) {
            for (int tape = 0; tape <= 5; tape++) {
                for (int n : new int[] {MIN, -1, 0, 1, 60, 61, MAX}) {
                    Counted x = ready.make();
                    due.is(32, ready + ": tape(" + tape + ", -1, " + n + ")", x.tape(tape, -1, n), 1);
                    due.is(33, "nothing is there", x.item(tape, 0, 1), -11);
                    due.is(34, "nothing is there", x.peek(tape, 0), NO);
                    due.is(28, "nothing is there", x.judge(0, tape, 0), 100);
                    due.is(32, "again", x.tape(tape, -1, n), 1);
                    due.is(32, "a row again", x.tape(tape, BYTES, 1), 1);
                    due.is(32, "all 0", x.peek(tape, 0), 0);
                }
            }
        }
    }

    /** All 0, also where there was a row already: of the same sort and size, of others. */
    private static void tapeIsAllZeroThen() {
        for (int before = BYTES; before <= BOOLEANS; before++) {
            for (int sort = BYTES; sort <= BOOLEANS; sort++) {
                Counted x = new Counted();
                x.tape(0, before, 60);
                x.tape(1, before, 2);
                for (int i = 0; i < 60; i++) {
                    x.item(0, i, 1);
                }
                x.items(1, 0, 1, 1);
                due.is(32, "from sort " + before + " to " + sort, x.tape(0, sort, 60), 1);
                for (int i = 0; i < 60; i++) {
                    due.is(32, "item " + i, x.peek(0, i), 0);
                }
                due.is(32, "the other TAPE", x.peek(1, 1), 1);
                x.items(0, 0, 1, 1, 1);
                x.tape(0, sort, 1);
                due.is(32, "item 0 of one", x.peek(0, 0), 0);
                due.is(32, "no item 1", x.peek(0, 1), NO);
                x.tape(0, sort, 3);
                due.is(32, "item 0 of three", x.peek(0, 0), 0);
                due.is(32, "item 1 of three", x.peek(0, 1), 0);
                due.is(32, "item 2 of three", x.peek(0, 2), 0);
            }
        }
    }
}
