/** Promises 20 to 27: what is seen, odds, means, events, books. */
public final class SeenTests {
    private static final Due due = new Due();
    private static final String MINIMUS = "n4;mx14x14x14x12";

    public static void main(String[] args) {
        see();
        fits();
        fitsOfCalls();
        odds();
        mean();
        event();
        after();
        afterLeads();
        book();
        looked();
        due.end("SeenTests");
    }

    private static void see() {
        Counted x = new Counted();
        due.is(20, "see(-2, 1, 1)", x.see(-2, 1, 1), -1);
        due.is(20, "see(193, 1, 1)", x.see(193, 1, 1), -1);
        due.is(20, "see(0, 0, 1)", x.see(0, 0, 1), -1);
        due.is(20, "see(0, 7, 1)", x.see(0, 7, 1), -1);
        due.is(20, "see(0, 1, 0)", x.see(0, 1, 0), -1);
        due.is(20, "see(0, 1, 7)", x.see(0, 1, 7), -1);
        due.is(20, "count(0)", x.count(0), 0);
        due.is(20, "see(192, 6, 6)", x.see(192, 6, 6), 1);
        due.is(20, "see(0, 1, 1)", x.see(0, 1, 1), 2);
        due.is(20, "see(0, 1, 1) again", x.see(0, 1, 1), 3);
        due.is(20, "see(1, 6, 1)", x.see(1, 6, 1), 4);
        due.is(20, "see(2, 1, 6)", x.see(2, 1, 6), 5);
        due.is(20, "see(3, 1, 6), full", x.see(3, 1, 6), -4);
        due.is(20, "see(193, 1, 6), full", x.see(193, 1, 6), -1);
        due.is(20, "count(0)", x.count(0), 5);
        due.is(20, "see(-1, 99, -7)", x.see(-1, 99, -7), 0);
        due.is(20, "count(0)", x.count(0), 0);
        due.is(20, "see(0, 6, 6)", x.see(0, 6, 6), 1);
    }

    private static void fits() {
        Counted x = new Counted();
        due.is(21, "fits(0) without changes", x.fits(0), 0);
        due.is(21, "fits(1) without changes", x.fits(1), -5);
        due.is(21, "fits(-1)", x.fits(-1), -1);
        due.is(21, "fits(2)", x.fits(2), -1);
        x.change(0);
        due.is(21, "fits(0), nothing seen", x.fits(0), 13);
        due.is(21, "fits(1), nothing seen", x.fits(1), 0);
        x.see(1, 1, 1);
        due.is(21, "fits(0), 1 stays", x.fits(0), 8);
        due.is(21, "fits(1), 1 stays", x.fits(1), 3);
        x.see(1, 6, 5);
        due.is(21, "fits(0), 5 behind", x.fits(0), 3);
        x.see(1, 3, 4);
        due.is(21, "fits(0)", x.fits(0), 1);
        due.is(21, "fits(1)", x.fits(1), 3);
        x.see(2, 3, 4);
        due.is(21, "fits(1), a row that isn't there", x.fits(1), 3);
        x.leads(2);
        due.is(21, "fits(0), now it is there", x.fits(0), 0);
        due.is(21, "fits(1), now it is there", x.fits(1), -5);
        x.see(-1, 0, 0);
        x.see(0, 1, 2);
        due.is(21, "fits(0), ROW 0 is ROUNDS", x.fits(0), 0);
        due.is(21, "of(0, 0) stays", x.of(0, 0), 0);
        due.holds("21: the rows stay", Due.row(x, 1).equals("214365"));
    }

    private static void fitsOfCalls() {
        Counted x = new Counted();
        Due.read(x, MINIMUS + ";b1234;cbs");
        x.see(8, 2, 2);
        due.is(21, "fits(0), the lead is a bob", x.fits(0), 0);
        x.see(-1, 0, 0);
        x.see(8, 2, 3);
        due.is(21, "fits(0), the lead is a bob", x.fits(0), 5);
        x.see(16, 4, 4);
        due.is(21, "fits(0), no single there", x.fits(0), 3);
        x.call(0, 0);
        due.is(21, "fits(0), plain", x.fits(0), 1);
        due.is(21, "fits(1), plain", x.fits(1), 15);
    }

    private static void odds() {
        Counted x = new Counted();
        due.is(22, "odds(1, 1, 0), ROW 0 alone", x.odds(1, 1, 0), 1);
        due.is(22, "odds(1, 1, 1), ROW 0 alone", x.odds(1, 1, 1), 1);
        due.is(22, "odds(1, 2, 0), ROW 0 alone", x.odds(1, 2, 0), 0);
        due.is(22, "odds(1, 2, 1), ROW 0 alone", x.odds(1, 2, 1), 1);
        due.is(22, "odds(0, 1, 0)", x.odds(0, 1, 0), Long.MIN_VALUE);
        due.is(22, "odds(7, 1, 0)", x.odds(7, 1, 0), Long.MIN_VALUE);
        due.is(22, "odds(1, 0, 0)", x.odds(1, 0, 0), Long.MIN_VALUE);
        due.is(22, "odds(1, 7, 0)", x.odds(1, 7, 0), Long.MIN_VALUE);
        due.is(22, "odds(1, 1, -1)", x.odds(1, 1, -1), Long.MIN_VALUE);
        due.is(22, "odds(1, 1, 2)", x.odds(1, 1, 2), Long.MIN_VALUE);
        Due.read(x, MINIMUS + ";cppp");
        due.is(22, "odds(1, 1, 0)", x.odds(1, 1, 0), 7);
        due.is(22, "odds(1, 1, 1)", x.odds(1, 1, 1), 25);
        due.is(22, "odds(1, 2, 0)", x.odds(1, 2, 0), 6);
        due.is(22, "odds(1, 2, 1)", x.odds(1, 2, 1), 25);
        Due.read(x, "n4;mx14x");
        due.is(22, "odds(1, 2, 0), lowest", x.odds(1, 2, 0), 1);
        due.is(22, "odds(1, 2, 1), lowest", x.odds(1, 2, 1), 4);
        due.is(22, "odds(4, 3, 0), lowest", x.odds(4, 3, 0), 1);
        x.change(3);
        x.change(0);
        due.is(22, "odds(2, 1, 0), lowest", x.odds(2, 1, 0), 1);
        due.is(22, "odds(2, 1, 1), lowest", x.odds(2, 1, 1), 2);
    }

    private static void mean() {
        Counted x = new Counted();
        due.is(23, "mean(0), ROW 0 alone", x.mean(0), 0);
        due.is(23, "mean(1), ROW 0 alone", x.mean(1), 1);
        due.is(23, "mean(-1)", x.mean(-1), Long.MIN_VALUE);
        due.is(23, "mean(2)", x.mean(2), Long.MIN_VALUE);
        Due.read(x, MINIMUS + ";cppp");
        due.is(23, "mean(0)", x.mean(0), 32);
        due.is(23, "mean(1)", x.mean(1), 25);
        x.pattern(1, 1);
        due.is(23, "mean(0), 14 of 25", x.mean(0), 14);
        x.pattern(2, 1);
        due.is(23, "mean(0), 8 of 25", x.mean(0), 8);
        Due.read(x, "n6;m123456");
        due.is(23, "mean(0), 4 of 2", x.mean(0), 2);
        due.is(23, "mean(1), 4 of 2", x.mean(1), 1);
    }

    private static void event() {
        Counted x = new Counted();
        due.is(24, "event(-2, 0)", x.event(-2, 0), -1);
        due.is(24, "event(4, 0)", x.event(4, 0), -1);
        due.is(24, "event(0, -1)", x.event(0, -1), -1);
        due.is(24, "event(0, 12)", x.event(0, 12), -1);
        due.is(24, "event(1, -1)", x.event(1, -1), -1);
        due.is(24, "event(1, 12)", x.event(1, 12), -1);
        due.is(24, "event(2, -1)", x.event(2, -1), -2);
        due.is(24, "event(2, 17)", x.event(2, 17), -2);
        due.is(24, "event(3, 0)", x.event(3, 0), -2);
        due.is(24, "event(3, 13)", x.event(3, 13), -2);
        due.is(24, "count(1)", x.count(1), 0);
        int[][] events = {{0, 0}, {0, 11}, {1, 0}, {1, 11}, {2, 0}, {2, 16}, {3, 1}, {3, 12}};
        for (int i = 0; i < events.length; i++) {
            due.is(24, "event " + i, x.event(events[i][0], events[i][1]), i + 1);
        }
        due.is(24, "event(3, 1), full", x.event(3, 1), -4);
        due.is(24, "event(3, 0), full", x.event(3, 0), -2);
        due.is(24, "event(1, 12), full", x.event(1, 12), -1);
        due.is(24, "event(-1, 77)", x.event(-1, 77), 0);
        due.is(24, "count(1)", x.count(1), 0);
    }

    private static void afters(Counted x, int round, int falseRow, int isTrue) {
        due.is(25, "after(0)", x.after(0), round);
        due.is(25, "after(1)", x.after(1), falseRow);
        due.is(25, "after(2)", x.after(2), isTrue);
    }

    private static void after() {
        Counted x = new Counted();
        due.is(25, "after(-1)", x.after(-1), -1);
        due.is(25, "after(3)", x.after(3), -1);
        afters(x, -5, -5, 0);
        Due.read(x, MINIMUS + ";b14;cppp");
        afters(x, 24, -5, 1);
        x.event(2, 16);
        afters(x, -5, -5, 0);
        due.is(25, "told(1) stays", x.told(1), 8);
        due.is(25, "told(6) stays", x.told(6), 1);
        x.event(-1, 0);
        x.event(2, 8);
        afters(x, -5, -5, 0);
        x.event(-1, 0);
        x.event(2, 0);
        afters(x, 24, -5, 1);
        x.event(2, 7);
        afters(x, 2, 2, 0);
        x.event(3, 2);
        afters(x, 2, -5, 1);
        x.event(3, 1);
        afters(x, -5, -5, 0);
    }

    private static void afterLeads() {
        Counted x = new Counted();
        Due.read(x, MINIMUS + ";b14;cp");
        x.event(1, 0);
        afters(x, 8, -5, 1);
        x.event(0, 0);
        afters(x, -5, -5, 0);
        x.event(1, 1);
        afters(x, -5, -5, 0);
        x.event(3, 12);
        due.is(25, "after(0), three plain ones and a bob", x.after(0), 32);
        due.is(25, "of(3, 1) stays", x.of(3, 1), 0);
        due.is(25, "told(2) stays", x.told(2), 1);
        x.event(0, 1);
        due.is(25, "after(0), plain", x.after(0), 24);
        due.is(25, "after(1), plain", x.after(1), 24);
        x.event(-1, 0);
        x.call(0, 1);
        x.event(0, 0);
        x.event(3, 3);
        afters(x, 24, -5, 1);
    }

    private static void book() {
        Counted x = new Counted();
        due.is(26, "book(-2, 1)", x.book(-2, 1), -1);
        due.is(26, "book(193, 1)", x.book(193, 1), -1);
        due.is(26, "book(0, 0)", x.book(0, 0), -1);
        due.is(26, "book(0, 7)", x.book(0, 7), -1);
        due.is(26, "count(2)", x.count(2), 0);
        for (int i = 1; i <= 8; i++) {
            due.is(26, "book", x.book(i == 1 ? 192 : 0, i == 2 ? 6 : 1), i);
        }
        due.is(26, "book(0, 1), full", x.book(0, 1), -4);
        due.is(26, "book(0, 7), full", x.book(0, 7), -1);
        due.is(26, "count(2)", x.count(2), 8);
        due.is(26, "book(-1, 0)", x.book(-1, 0), 0);
        due.is(26, "count(2)", x.count(2), 0);
    }

    private static void looked() {
        Counted x = new Counted();
        due.is(27, "looked(), empty", x.looked(), -5);
        x.book(0, 1);
        due.is(27, "looked()", x.looked(), -5);
        x.book(1, 2);
        due.is(27, "looked(), no ROW 1", x.looked(), 1);
        x.change(0);
        due.is(27, "looked(), ROW 1 is there", x.looked(), -5);
        x.change(33);
        x.book(2, 2);
        due.is(27, "looked()", x.looked(), -5);
        x.book(2, 4);
        x.book(99, 4);
        due.is(27, "looked(), ROW 2 begins with 2", x.looked(), 3);
        x.book(-1, 0);
        x.book(0, 2);
        due.is(27, "looked(), ROW 0 begins with 1", x.looked(), 0);
    }
}
