/** An object whose calls are counted: what it answers behind its 512th is free, so no test asks it then. */
final class Counted {
    private static final int MOST_CALLS = 512;

    private final BellTouches x = new BellTouches();
    private int calls = 0;

    private BellTouches next() {
        calls++;
        if (calls > MOST_CALLS) {
            throw new IllegalStateException("the test asks an object more than " + MOST_CALLS + " times");
        }
        return x;
    }

    int bells(int n) {
        return next().bells(n);
    }

    int change(int places) {
        return next().change(places);
    }

    int calls(int what, int places) {
        return next().calls(what, places);
    }

    int call(int lead, int call) {
        return next().call(lead, call);
    }

    int leads(int n) {
        return next().leads(n);
    }

    int pattern(int place, int bell) {
        return next().pattern(place, bell);
    }

    int feed(int sign) {
        return next().feed(sign);
    }

    int read() {
        return next().read();
    }

    int of(int side, int k) {
        return next().of(side, k);
    }

    int told(int what) {
        return next().told(what);
    }

    int at(int row, int place) {
        return next().at(row, place);
    }

    int where(int row, int bell) {
        return next().where(row, bell);
    }

    int same(int row) {
        return next().same(row);
    }

    int good(int places) {
        return next().good(places);
    }

    int music(int what) {
        return next().music(what);
    }

    int least(int leads, int what) {
        return next().least(leads, what);
    }

    int still(int bell) {
        return next().still(bell);
    }

    int ahead(int one, int other) {
        return next().ahead(one, other);
    }

    int see(int row, int place, int bell) {
        return next().see(row, place, bell);
    }

    int fits(int what) {
        return next().fits(what);
    }

    long odds(int bell, int place, int part) {
        return next().odds(bell, place, part);
    }

    long mean(int part) {
        return next().mean(part);
    }

    int event(int what, int n) {
        return next().event(what, n);
    }

    int after(int what) {
        return next().after(what);
    }

    int book(int row, int bell) {
        return next().book(row, bell);
    }

    int looked() {
        return next().looked();
    }

    int judge(int row, int tape, int i) {
        return next().judge(row, tape, i);
    }

    int image() {
        return next().image();
    }

    int undo() {
        return next().undo();
    }

    int count(int what) {
        return next().count(what);
    }

    int tape(int tape, int sort, int n) {
        return next().tape(tape, sort, n);
    }

    int item(int tape, int i, long v) {
        return next().item(tape, i, v);
    }

    long peek(int tape, int i) {
        return next().peek(tape, i);
    }

    int shift(int tape, int i, int other, int j, int n) {
        return next().shift(tape, i, other, j, n);
    }

    // ---- several calls at once

    Counted feeds(String text) {
        for (int i = 0; i < text.length(); i++) {
            feed(text.charAt(i));
        }
        return this;
    }

    int reads(String text) {
        return feeds(text).read();
    }

    /** The first n BELLS of a ROW, as a text. */
    String row(int row, int n) {
        StringBuilder bells = new StringBuilder();
        for (int place = 1; place <= n; place++) {
            bells.append(at(row, place));
        }
        return bells.toString();
    }

    void items(int tape, int from, long... items) {
        for (int i = 0; i < items.length; i++) {
            item(tape, from + i, items[i]);
        }
    }
}
