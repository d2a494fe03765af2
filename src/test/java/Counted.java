import java.util.Arrays;

/** An object whose calls are counted: what it answers behind its 512th is free, so no test asks it then. */
final class Counted {
    private static final int MOST_CALLS = 512;
    private static Due besideTheModel = null;

    private final BellTouches x = new BellTouches();
    private final Model model = besideTheModel == null ? null : new Model();
    private int calls = 0;

    /** From now on each answer of a new object is looked at: it must be as the model's. */
    static void besideTheModel(Due due) {
        besideTheModel = due;
    }

    int left() {
        return MOST_CALLS - calls;
    }

    private BellTouches next() {
        calls++;
        if (calls > MOST_CALLS) {
            throw new IllegalStateException("the test asks an object more than " + MOST_CALLS + " times");
        }
        return x;
    }

    private long as(long answer, long models, String call, long... numbers) {
        String name = answer == models ? call : call + Arrays.toString(numbers) + ", beside the model";
        besideTheModel.is(0, name, answer, models);
        return answer;
    }

    private int as(int answer, int models, String call, long... numbers) {
        return (int) as((long) answer, (long) models, call, numbers);
    }

    int bells(int n) {
        int answer = next().bells(n);
        return model == null ? answer : as(answer, model.bells(n), "bells", n);
    }

    int change(int places) {
        int answer = next().change(places);
        return model == null ? answer : as(answer, model.change(places), "change", places);
    }

    int calls(int what, int places) {
        int answer = next().calls(what, places);
        return model == null ? answer : as(answer, model.calls(what, places), "calls", what, places);
    }

    int call(int lead, int call) {
        int answer = next().call(lead, call);
        return model == null ? answer : as(answer, model.call(lead, call), "call", lead, call);
    }

    int leads(int n) {
        int answer = next().leads(n);
        return model == null ? answer : as(answer, model.leads(n), "leads", n);
    }

    int pattern(int place, int bell) {
        int answer = next().pattern(place, bell);
        return model == null ? answer : as(answer, model.pattern(place, bell), "pattern", place, bell);
    }

    int feed(int sign) {
        int answer = next().feed(sign);
        return model == null ? answer : as(answer, model.feed(sign), "feed", sign);
    }

    int read() {
        int answer = next().read();
        return model == null ? answer : as(answer, model.read(), "read");
    }

    int of(int side, int k) {
        int answer = next().of(side, k);
        return model == null ? answer : as(answer, model.of(side, k), "of", side, k);
    }

    int told(int what) {
        int answer = next().told(what);
        return model == null ? answer : as(answer, model.told(what), "told", what);
    }

    int at(int row, int place) {
        int answer = next().at(row, place);
        return model == null ? answer : as(answer, model.at(row, place), "at", row, place);
    }

    int where(int row, int bell) {
        int answer = next().where(row, bell);
        return model == null ? answer : as(answer, model.where(row, bell), "where", row, bell);
    }

    int same(int row) {
        int answer = next().same(row);
        return model == null ? answer : as(answer, model.same(row), "same", row);
    }

    int good(int places) {
        int answer = next().good(places);
        return model == null ? answer : as(answer, model.good(places), "good", places);
    }

    int music(int what) {
        int answer = next().music(what);
        return model == null ? answer : as(answer, model.music(what), "music", what);
    }

    int least(int leads, int what) {
        int answer = next().least(leads, what);
        return model == null ? answer : as(answer, model.least(leads, what), "least", leads, what);
    }

    int still(int bell) {
        int answer = next().still(bell);
        return model == null ? answer : as(answer, model.still(bell), "still", bell);
    }

    int ahead(int one, int other) {
        int answer = next().ahead(one, other);
        return model == null ? answer : as(answer, model.ahead(one, other), "ahead", one, other);
    }

    int see(int row, int place, int bell) {
        int answer = next().see(row, place, bell);
        return model == null ? answer : as(answer, model.see(row, place, bell), "see", row, place, bell);
    }

    int fits(int what) {
        int answer = next().fits(what);
        return model == null ? answer : as(answer, model.fits(what), "fits", what);
    }

    long odds(int bell, int place, int part) {
        long answer = next().odds(bell, place, part);
        return model == null ? answer : as(answer, model.odds(bell, place, part), "odds", bell, place, part);
    }

    long mean(int part) {
        long answer = next().mean(part);
        return model == null ? answer : as(answer, model.mean(part), "mean", part);
    }

    int event(int what, int n) {
        int answer = next().event(what, n);
        return model == null ? answer : as(answer, model.event(what, n), "event", what, n);
    }

    int after(int what) {
        int answer = next().after(what);
        return model == null ? answer : as(answer, model.after(what), "after", what);
    }

    int book(int row, int bell) {
        int answer = next().book(row, bell);
        return model == null ? answer : as(answer, model.book(row, bell), "book", row, bell);
    }

    int looked() {
        int answer = next().looked();
        return model == null ? answer : as(answer, model.looked(), "looked");
    }

    int judge(int row, int tape, int i) {
        int answer = next().judge(row, tape, i);
        return model == null ? answer : as(answer, model.judge(row, tape, i), "judge", row, tape, i);
    }

    int image() {
        int answer = next().image();
        return model == null ? answer : as(answer, model.image(), "image");
    }

    int undo() {
        int answer = next().undo();
        return model == null ? answer : as(answer, model.undo(), "undo");
    }

    int count(int what) {
        int answer = next().count(what);
        return model == null ? answer : as(answer, model.count(what), "count", what);
    }

    int tape(int tape, int sort, int n) {
        int answer = next().tape(tape, sort, n);
        return model == null ? answer : as(answer, model.tape(tape, sort, n), "tape", tape, sort, n);
    }

    int item(int tape, int i, long v) {
        int answer = next().item(tape, i, v);
        return model == null ? answer : as(answer, model.item(tape, i, v), "item", tape, i, v);
    }

    long peek(int tape, int i) {
        long answer = next().peek(tape, i);
        return model == null ? answer : as(answer, model.peek(tape, i), "peek", tape, i);
    }

    int shift(int tape, int i, int other, int j, int n) {
        int answer = next().shift(tape, i, other, j, n);
        return model == null ? answer : as(answer, model.shift(tape, i, other, j, n), "shift", tape, i, other, j, n);
    }

    // ---- several calls at once

    Counted feeds(String text) {
        for (int i = 0; i < text.length(); i++) {
            feed(text.charAt(i));
        }
        return this;
    }

    int reads(String text) {
        return feeds(text).read();
    }

    /** The first n BELLS of a ROW, as a text. */
    String row(int row, int n) {
        StringBuilder bells = new StringBuilder();
        for (int place = 1; place <= n; place++) {
            bells.append(at(row, place));
        }
        return bells.toString();
    }

    void items(int tape, int from, long... items) {
        for (int i = 0; i < items.length; i++) {
            item(tape, from + i, items[i]);
        }
    }
}
