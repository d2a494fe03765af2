/**
 * Promises 2 to 9, 20, 24, 26, 30, 32, 33, 35: what a call changes shows at once, also where all had been asked
 * ahead of it; "Answers": what is asked changes nothing, also nothing of what comes later.
 */
public final class AskedAheadTests {
    private static final Due due = new Due();

    public static void main(String[] args) {
        bellsShow();
        changesShow();
        callsShow();
        leadsShow();
        textsShow();
        imagesShow();
        byHandShows();
        tapesShow();
        touchAfterTouch();
        manyLongTouches();
        textAfterText();
        askedOrNot();
        due.end("AskedAheadTests");
    }

    private static Counted read(String text) {
        Counted x = new Counted();
        due.holds("9: no FAULT in " + text, x.reads(text) >= 0);
        return x;
    }

    private static void tells(int promise, Counted x, String name, int... told) {
        for (int what = 0; what <= 7; what++) {
            due.is(promise, name + ": told(" + what + ")", x.told(what), told[what]);
        }
    }

    private static void bellsShow() {
        for (int n = 4; n <= 8; n++) {
            Counted x = read("n6;mx16x16x16x16x16x12;cppppp");
            tells(11, x, "a course", 6, 12, 5, 60, 60, -5, 1, 5);
            due.is(12, "at(60, 6)", x.at(60, 6), 6);
            due.is(2, "bells(" + n + ")", x.bells(n), 6);
            tells(2, x, "bells(" + n + ")", n, 0, 1, 0, -5, -5, 0, 0);
            due.is(2, "at(1, 1)", x.at(1, 1), -1);
            due.text(2, "ROW 0", x.row(0, n), "12345678".substring(0, n));
            due.is(2, "music(2)", x.music(2), 0);
            due.is(2, "same(1)", x.same(1), -1);
            due.is(2, "least(5, 0)", x.least(5, 0), -5);
            due.is(2, "fits(0)", x.fits(0), 0);
            due.is(2, "after(0)", x.after(0), -5);
            due.is(2, "odds(1, 1, 0)", x.odds(1, 1, 0), 1);
            due.is(2, "odds(1, 1, 1)", x.odds(1, 1, 1), 1);
            due.is(2, "still(1)", x.still(1), 0);
            due.is(2, "ahead(1, 2)", x.ahead(1, 2), 1);
        }
    }

    private static void changesShow() {
        Counted x = new Counted();
        x.bells(4);
        for (int i = 1; i <= 16; i++) {
            x.change(i % 2 == 1 ? 0 : 9);
            int round = i >= 8 ? 8 : -5;
            tells(3, x, i + " CHANGES", 4, i, 1, i, round, i > 8 ? 8 : -5, i == 8 ? 1 : 0,
                    i % 8 == 0 ? 1 : i % 2 == 1 ? 2 : i % 4 == 0 ? 2 : 4);
            due.is(3, "the last ROW", x.same(i), i < 8 ? i : i - (i / 8) * 8);
        }
    }

    private static void callsShow() {
        Counted x = read("n4;mx14x14x14x12;cppp");
        tells(11, x, "PLAIN", 4, 8, 3, 24, 24, -5, 1, 3);
        x.call(0, 1);
        tells(5, x, "no BOB there", 4, 8, 3, 24, 24, -5, 1, 3);
        x.calls(1, 9);
        tells(4, x, "a BOB first", 4, 8, 3, 24, 8, 8, 0, 3);
        x.call(0, 2);
        tells(5, x, "no SINGLE there", 4, 8, 3, 24, 24, -5, 1, 3);
        x.calls(2, 9);
        tells(4, x, "a SINGLE first", 4, 8, 3, 24, 8, 8, 0, 3);
        x.calls(2, -1);
        tells(4, x, "no SINGLE any more", 4, 8, 3, 24, 24, -5, 1, 3);
        x.call(2, 1);
        tells(5, x, "a BOB last: as ROW 16", 4, 8, 3, 24, -5, 24, 0, 3);
        x.calls(1, 3);
        tells(4, x, "a BOB as the last CHANGE", 4, 8, 3, 24, 24, -5, 1, 3);
    }

    private static void leadsShow() {
        Counted x = read("n4;mx14x14x14x12");
        int[] leads = {1, 3, 12, 2, 4, 3, 1};
        for (int n : leads) {
            x.leads(n);
            tells(6, x, n + " LEADS", 4, 8, n, 8 * n, n < 3 ? -5 : 24, n <= 3 ? -5 : 24, n == 3 ? 1 : 0, 3);
            due.is(6, "the last ROW", x.same(8 * n), n % 3 == 0 ? 0 : n < 3 ? 8 * n : 8 * (n % 3));
            due.is(6, "no further ROW", x.at(8 * n + 1, 1), -1);
        }
    }

    private static void textsShow() {
        Counted x = read("n4;mx14x14x14x12;cppp");
        tells(11, x, "24 ROWS", 4, 8, 3, 24, 24, -5, 1, 3);
        x.reads("mx14");
        tells(9, x, "m", 4, 2, 3, 6, -5, -5, 0, 4);
        x.reads("cpppp");
        tells(9, x, "c", 4, 2, 4, 8, 8, -5, 1, 4);
        x.reads("cbppp");
        tells(9, x, "c of a BOB that isn't there", 4, 2, 4, 8, 8, -5, 1, 4);
        x.reads("b1234");
        tells(9, x, "b", 4, 2, 4, 8, 3, 2, 0, 4);
        x.reads("cs;sx");
        tells(9, x, "s", 4, 2, 1, 2, 2, -5, 1, 4);
        x.reads("n8");
        tells(9, x, "n", 8, 0, 1, 0, -5, -5, 0, 0);
        x.reads("mx;n?");
        tells(9, x, "a FAULT", 8, 0, 1, 0, -5, -5, 0, 0);
    }

    private static void imagesShow() {
        Counted x = read("n4;mx14x14x14x12;cppp");
        x.image();
        tells(29, x, "THE IMAGE", 4, 8, 3, 24, 24, -5, 1, 3);
        x.reads("n6;mx");
        tells(9, x, "another touch", 6, 1, 1, 1, -5, -5, 0, 2);
        x.undo();
        tells(30, x, "undo", 4, 8, 3, 24, 24, -5, 1, 3);
        due.text(30, "ROW 8", x.row(8, 4), "1342");
        x.leads(4);
        x.undo();
        tells(30, x, "undo again", 4, 8, 3, 24, 24, -5, 1, 3);
    }

    /** What is told by hand shows in MUSIC, FITS, AFTER, LOOKED at: one more, one more, none. */
    private static void byHandShows() {
        Counted x = read("n4;mx;cp");
        due.is(16, "music(2)", x.music(2), 1);
        due.is(23, "mean(0)", x.mean(0), 1);
        x.pattern(1, 1);
        due.is(7, "music(2)", x.music(2), 0);
        due.is(7, "mean(0)", x.mean(0), 0);
        x.pattern(1, 2);
        due.is(7, "music(2)", x.music(2), 1);
        due.is(21, "fits(0)", x.fits(0), 5);
        x.see(1, 1, 2);
        due.is(20, "fits(0)", x.fits(0), 2);
        x.see(1, 4, 3);
        due.is(20, "fits(0)", x.fits(0), 1);
        x.see(1, 4, 4);
        due.is(20, "fits(0)", x.fits(0), 0);
        x.see(-1, 0, 0);
        due.is(20, "fits(0)", x.fits(0), 5);
        due.is(25, "after(2)", x.after(2), 0);
        x.event(3, 2);
        due.is(24, "after(2)", x.after(2), 1);
        x.event(2, 1);
        due.is(24, "after(2)", x.after(2), 0);
        x.event(-1, 0);
        due.is(24, "after(0)", x.after(0), -5);
        due.is(27, "looked()", x.looked(), -5);
        x.book(0, 1);
        due.is(26, "looked()", x.looked(), -5);
        x.book(1, 1);
        due.is(26, "looked()", x.looked(), 1);
        x.book(-1, 0);
        due.is(26, "looked()", x.looked(), -5);
        x.book(1, 2);
        due.is(26, "looked()", x.looked(), -5);
        x.change(9);
        due.is(27, "looked(), the ROW is as it was", x.looked(), -5);
        x.bells(5);
        x.book(1, 2);
        due.is(27, "looked(), no ROW", x.looked(), 0);
        x.change(16);
        due.is(27, "looked(), a ROW", x.looked(), -5);
    }

    private static void tapesShow() {
        Counted x = read("n4;mx");
        due.is(28, "nothing", x.judge(0, 0, 0), 100);
        x.tape(0, 0, 4);
        due.is(32, "all 0", x.judge(0, 0, 0), 1);
        x.items(0, 0, 1, 2, 3, 4);
        due.is(33, "ROUNDS", x.judge(0, 0, 0), -5);
        due.is(28, "ROW 1", x.judge(1, 0, 0), 1);
        x.tape(1, 0, 4);
        x.items(1, 0, 2, 1, 4, 3);
        x.shift(1, 0, 0, 0, 4);
        due.is(35, "ROUNDS no more", x.judge(0, 0, 0), 1);
        due.is(35, "ROW 1", x.judge(1, 0, 0), -5);
        x.calls(1, 15);
        x.call(0, 1);
        due.is(28, "ROW 1 is ROUNDS", x.judge(1, 0, 0), 1);
        x.tape(0, 2, 4);
        due.is(32, "no row of bytes", x.judge(1, 0, 0), -12);
        x.tape(0, -1, 0);
        due.is(32, "nothing", x.judge(1, 0, 0), 100);
    }

    /** Promises 11, 14, 17, 21, 25: many touches, one behind the other, all that hangs on equal ROWS. */
    private static void touchAfterTouch() {
        String[] texts = {"n4;mx14x14x14x12;cpppp", "n4;m1234;cpppp", "n4;m14x14x14x12x;cppp", "n8;mx18x18x18x12;cbpp",
            "n4;mx14.14x1234x", "n5;m5.1;cpppppp", "n4;mxx;cpp", "n6;mx16x34;b14;s12;cbsp"};
        for (int first = 0; first < texts.length; first++) {
            Counted x = new Counted();
            for (int i = 0; x.left() > 160; i++) {
                String text = texts[(first + i) % texts.length];
                x.reads(text);
                asFresh(text, x, read(text));
            }
        }
    }

    /** Promises 4, 5, 11, 14: as long touches as there may be, one behind the other, by always other calls. */
    private static void manyLongTouches() {
        String method = "n8;mx18x18x18x18x18x18x18x12;b14;s1234;cpppppppppppp";
        Counted x = read(method);
        int[] calls = new int[12];
        for (int i = 0; i < 80; i++) {
            int lead = 5 * i % 12;
            calls[lead] = (calls[lead] + 1 + i % 2) % 3;
            x.call(lead, calls[lead]);
            Counted fresh = read(method);
            for (int other = 0; other <= 11; other++) {
                fresh.call(other, calls[other]);
            }
            String name = "touch " + i;
            due.is(11, name + ": ROUND", x.told(4), fresh.told(4));
            due.is(11, name + ": FALSE", x.told(5), fresh.told(5));
            due.is(14, name + ": same(192)", x.same(192), fresh.same(192));
            due.is(17, name + ": least(4, 0)", x.least(4, 0), fresh.least(4, 0));
        }
    }

    private static void asFresh(String text, Counted x, Counted fresh) {
        for (int what = 0; what <= 7; what++) {
            due.is(11, text + ": told(" + what + ")", x.told(what), fresh.told(what));
        }
        for (int r = 0; r <= 33; r++) {
            due.is(14, text + ": same(" + r + ")", x.same(r), fresh.same(r));
        }
        for (int leads = 1; leads <= 5; leads++) {
            due.is(17, text + ": least(" + leads + ", 0)", x.least(leads, 0), fresh.least(leads, 0));
            due.is(17, text + ": least(" + leads + ", 1)", x.least(leads, 1), fresh.least(leads, 1));
        }
        for (int what = 0; what <= 2; what++) {
            due.is(25, text + ": after(" + what + ")", x.after(what), fresh.after(what));
        }
        due.is(21, text + ": fits(1)", x.fits(1), fresh.fits(1));
    }

    /** Promise 9: texts of many WORDS and letters, one behind the other, with a FAULT and without. */
    private static void textAfterText() {
        Counted x = new Counted();
        for (int i = 0; i < 9; i++) {
            due.is(9, "16 WORDS", x.reads("mxxxxxxxxxxxxxxxx"), 1);
            due.is(9, "told(1)", x.told(1), 16);
            due.is(9, "a FAULT", x.reads("cbbbbbbbbbbbbq"), -23);
            due.is(9, "12 letters", x.reads("csssssssssssb"), 1);
            due.is(9, "the last one", x.of(3, 11), 1);
        }
    }

    /** All is as it would be, had nothing been asked. */
    private static void askedOrNot() {
        Views.Deed[] deeds = {x -> x.bells(6), x -> x.change(0), x -> x.change(63), x -> x.calls(1, 15), x -> x.calls(2, -1),
            x -> x.call(0, 1), x -> x.call(11, 2), x -> x.leads(2), x -> x.leads(12), x -> x.pattern(1, 2),
            x -> x.read(), x -> x.see(0, 1, 1), x -> x.see(-1, 0, 0), x -> x.event(0, 0), x -> x.event(-1, 0),
            x -> x.book(0, 1), x -> x.book(-1, 0), x -> x.image(), x -> x.undo(), x -> x.tape(0, 0, 5),
            x -> x.item(0, 0, 3), x -> x.shift(0, 0, 0, 1, 1)};
        for (Ready ready : Ready.values()) {
            for (int i = 0; i < deeds.length; i++) {
                Views.Deed deed = deeds[i];
                due.unchanged(0, ready + ": all was asked ahead of deed " + i, Views.of(ready, deed), Views.of(ready, x -> {
                    Views.ask(x);
                    deed.to(x);
                }));
            }
        }
    }
}
