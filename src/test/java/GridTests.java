/**
 * Promises 2 to 35: each call with each of the numbers at and beside its bounds and far off, on objects
 * made ready in every way, beside the model; so two refusals at once are tried in all their pairs.
 */
public final class GridTests {
    private static final Due due = new Due();
    private static final int MIN = Integer.MIN_VALUE;
    private static final int MAX = Integer.MAX_VALUE;
    private static final int[] WHATS = {MIN, -2, -1, 0, 1, 2, 3, 4, 5, 7, 8, 256, MAX};
    private static final int[] BELLS = {MIN, -1, 0, 1, 3, 4, 5, 6, 7, 8, 9, 257, MAX};
    private static final int[] SHORT_BELLS = {-1, 0, 1, 4, 5, 8, 9};
    private static final int[] LEADS = {MIN, -1, 0, 1, 2, 5, 6, 11, 12, 13, 16, 17, 256, MAX};
    private static final int[] PLACES = {MIN, -2, -1, 0, 1, 2, 3, 7, 9, 15, 16, 31, 32, 33, 63, 64, 129, 255, 256, MAX};
    private static final int[] SIGNS = {MIN, -1, 0, 'n', 'x', 126, 127, 128, 'n' + 256, MAX};
    private static final int[] TAPES = {MIN, -1, 0, 1, 3, 4, 5, 6, MAX};
    private static final int[] SORTS = {MIN, -2, -1, 0, 1, 2, 3, 4, 5, MAX};
    private static final int[] ITEMS = {MIN, -1, 0, 1, 2, 55, 58, 59, 60, 61, MAX};
    private static final int[] SHORT_ITEMS = {-1, 0, 1, 2, 59, 60, 61};
    private static final long[] VALUES = {Long.MIN_VALUE, -1, 0, 1, 128, 256, 32768, 65536, 1L << 31, 1L << 32, Long.MAX_VALUE};
    /** So many calls are left for a last look. */
    private static final int LOOK = 110;

    private final Ready ready;
    private Counted x;

    private GridTests(Ready ready) {
        this.ready = ready;
        x = ready.make();
    }

    public static void main(String[] args) {
        Counted.besideTheModel(due);
        for (Ready ready : Ready.values()) {
            GridTests grid = new GridTests(ready);
            grid.ofOne();
            grid.ofMethod();
            grid.ofRows();
            grid.byHand();
            grid.ofTapes();
            grid.ofShifts();
            grid.look();
        }
        due.end("GridTests");
    }

    /** The answer is looked at beside the model; an object that may have changed isn't used any more. */
    private void tries(Views.Call call, boolean mayChange) {
        long answer = call.on(x);
        if (mayChange && (answer >= 0 || answer <= -10) || x.left() < LOOK) {
            look();
            x = ready.make();
        }
    }

    /** Each of these answers is looked at beside the model, too. */
    private void look() {
        for (int what = -1; what <= 8; what++) {
            x.told(what);
            x.count(what);
            x.music(what);
            x.after(what);
            x.of(0, what);
            x.of(1, what);
            x.of(2, what);
            x.of(3, what);
        }
        x.fits(0);
        x.fits(1);
        x.looked();
        x.mean(0);
        x.mean(1);
        x.undo();
        x.told(5);
        x.count(0);
        x.after(1);
        x.read();
        x.told(4);
        for (int place = 1; place <= 8; place++) {
            x.pattern(place, 0);
        }
    }

    private void ofOne() {
        for (int n : BELLS) {
            tries(y -> y.bells(n), true);
            tries(y -> y.still(n), false);
        }
        for (int n : LEADS) {
            tries(y -> y.leads(n), true);
        }
        for (int places : PLACES) {
            tries(y -> y.change(places), true);
            tries(y -> y.good(places), false);
        }
        for (int sign : SIGNS) {
            tries(y -> y.feed(sign), true);
        }
        for (int what : WHATS) {
            tries(y -> y.told(what), false);
            tries(y -> y.music(what), false);
            tries(y -> y.fits(what), false);
            tries(y -> y.mean(what), false);
            tries(y -> y.after(what), false);
            tries(y -> y.count(what), false);
        }
        tries(y -> y.looked(), false);
        tries(y -> y.image(), true);
        tries(y -> y.undo(), true);
        tries(y -> y.read(), true);
    }

    private void ofMethod() {
        for (int a : LEADS) {
            for (int b : WHATS) {
                tries(y -> y.call(a, b), true);
                tries(y -> y.of(b, a), false);
                tries(y -> y.event(b, a), true);
            }
            if (a >= 1 && a <= 3 || a < 1 || a > 5) {
                tries(y -> y.least(a, 0), false);
                tries(y -> y.least(a, 1), false);
                tries(y -> y.least(a, 2), false);
            }
        }
        for (int what : WHATS) {
            for (int places : PLACES) {
                tries(y -> y.calls(what, places), true);
            }
        }
        for (int a : BELLS) {
            for (int b : BELLS) {
                tries(y -> y.pattern(a, b), true);
                tries(y -> y.ahead(a, b), false);
            }
        }
    }

    private int[] rows() {
        return new int[] {MIN, -2, -1, 0, 1, ready.last - 1, ready.last, ready.last + 1, 191, 192, 193, 256, MAX};
    }

    private void ofRows() {
        for (int row : rows()) {
            tries(y -> y.same(row), false);
            for (int b : BELLS) {
                tries(y -> y.at(row, b), false);
                tries(y -> y.where(row, b), false);
                tries(y -> y.book(row, b), true);
            }
        }
        for (int a : SHORT_BELLS) {
            for (int b : SHORT_BELLS) {
                for (int part = -1; part <= 2; part++) {
                    int p = part;
                    tries(y -> y.odds(a, b, p), false);
                }
            }
        }
    }

    private void byHand() {
        for (int row : rows()) {
            for (int a : SHORT_BELLS) {
                for (int b : SHORT_BELLS) {
                    tries(y -> y.see(row, a, b), true);
                }
            }
        }
    }

    private void ofTapes() {
        for (int tape : TAPES) {
            for (int i : ITEMS) {
                tries(y -> y.peek(tape, i), false);
                for (int sort : SORTS) {
                    tries(y -> y.tape(tape, sort, i), true);
                }
                for (long v : VALUES) {
                    tries(y -> y.item(tape, i, v), true);
                    tries(y -> y.peek(tape, i), false);
                }
                for (int row : rows()) {
                    tries(y -> y.judge(row, tape, i), false);
                }
            }
        }
    }

    private void ofShifts() {
        for (int tape : new int[] {-1, 0, 3, 5, 6}) {
            for (int other : new int[] {-1, 0, 3, 5, 6}) {
                for (int i : SHORT_ITEMS) {
                    for (int j : SHORT_ITEMS) {
                        for (int n : SHORT_ITEMS) {
                            tries(y -> y.shift(tape, i, other, j, n), true);
                            tries(y -> y.peek(other, j), false);
                        }
                    }
                }
            }
        }
    }
}
