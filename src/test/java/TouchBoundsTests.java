/** The boundary cases of promises 10 to 15, and of what "Terms" 1 says of ROWS, ROUND, FALSE, TRUE, COURSE. */
public final class TouchBoundsTests {
    private static final Due due = new Due();
    private static final Trials trials = new Trials(due);
    private static final int[] FAR = {Integer.MIN_VALUE, -1, 0, 1, 7, 16, 256, Integer.MAX_VALUE};

    public static void main(String[] args) {
        ofEachSide();
        ofChanges();
        ofCallsWhateverKIs();
        ofLeads();
        ofOnlyAsks();
        toldOfEach();
        toldOfNoNumber();
        toldOnlyAsks();
        numbersOfRows();
        rowZeroAloneWithoutChanges();
        lastChangeOfALead();
        aMethodOfOneChange();
        eachBellOnce();
        roundIsBehindRowZero();
        falseBehindRowZero();
        falseAtTheLastRow();
        trueOnlyIfAll();
        courseOfNone();
        courseOfEachLength();
        courseIsPlain();
        rowsAsked();
        rowsAskedInVain();
        sameOfRows();
        sameInVain();
        goodOfBounds();
        due.end("TouchBoundsTests");
    }

    private static Counted read(String text) {
        Counted x = new Counted();
        due.holds("9: no FAULT in " + text, x.reads(text) >= 0);
        return x;
    }

    private static void tells(Counted x, String touch, int last, int round, int falseRow, int isTrue) {
        due.is(11, "the last ROW of " + touch, x.told(3), last);
        due.is(11, "ROUND of " + touch, x.told(4), round);
        due.is(11, "FALSE of " + touch, x.told(5), falseRow);
        due.is(11, "TRUE of " + touch, x.told(6), isTrue);
    }

    // ---- promise 10

    /** NONE: side (0 .. 3). */
    private static void ofEachSide() {
        for (int side : Trials.beyond(0, 3)) {
            for (int k : FAR) {
                trials.refused(10, "of(" + side + ", " + k + ")", -1, x -> x.of(side, k));
            }
        }
    }

    /** NONE: k (of the CHANGES that there are). */
    private static void ofChanges() {
        for (Ready ready : Ready.values()) {
            Counted x = ready.make();
            for (int k : Trials.beyond(0, ready.changes - 1)) {
                due.is(10, ready + ": of(0, " + k + ")", x.of(0, k), -1);
                trials.refused(ready, 10, "of(0, " + k + ")", -1, y -> y.of(0, k));
            }
            for (int k = 0; k < ready.changes; k++) {
                due.holds("10: " + ready + ": of(0, " + k + ")", x.of(0, k) >= 0);
            }
        }
        int[] full = {0, 129, 0, 129, 0, 129, 0, 129, 0, 129, 0, 129, 0, 129, 0, 3};
        Counted x = Ready.FULL.make();
        for (int k = 0; k <= 15; k++) {
            due.is(10, "of(0, " + k + ") of a full one", x.of(0, k), full[k]);
        }
    }

    /** By 1, 2 k doesn't matter; -5: none; one that keeps no PLACE is 0. */
    private static void ofCallsWhateverKIs() {
        for (int k : FAR) {
            Counted x = new Counted();
            due.is(10, "of(1, " + k + "), none", x.of(1, k), -5);
            due.is(10, "of(2, " + k + "), none", x.of(2, k), -5);
            x.calls(1, 0);
            due.is(10, "of(1, " + k + ")", x.of(1, k), 0);
            due.is(10, "of(2, " + k + "), none", x.of(2, k), -5);
            x.calls(2, 63);
            due.is(10, "of(1, " + k + ")", x.of(1, k), 0);
            due.is(10, "of(2, " + k + ")", x.of(2, k), 63);
        }
    }

    /** CALL of LEAD k (0 .. 11), also behind LEADS. */
    private static void ofLeads() {
        for (int k : Trials.beyond(0, 11)) {
            trials.refused(10, "of(3, " + k + ")", -1, x -> x.of(3, k));
        }
        Counted x = new Counted();
        x.call(11, 2);
        due.is(10, "of(3, 11) of one LEAD", x.of(3, 11), 2);
        due.is(10, "of(3, 10) of one LEAD", x.of(3, 10), 0);
    }

    private static void ofOnlyAsks() {
        for (int side = 0; side <= 3; side++) {
            for (int k : new int[] {0, 11, 15}) {
                int asked = side;
                trials.asks(10, "of(" + side + ", " + k + ")", x -> x.of(asked, k));
            }
        }
    }

    // ---- promise 11

    /** Each of 0 .. 7, of an object that has a little of all. */
    private static void toldOfEach() {
        int[][] told = {{6, 0, 1, 0, -5, -5, 0, 0}, {6, 12, 3, 36, 36, -5, 1, 5}, {5, 10, 2, 20, -5, -5, 0, 4},
            {4, 1, 12, 12, 1, 1, 0, 1}, {8, 0, 12, 0, -5, -5, 0, 0}, {8, 16, 12, 192, -5, -5, 0, 7}};
        for (Ready ready : Ready.values()) {
            Counted x = ready.make();
            for (int what = 0; what <= 7; what++) {
                due.is(11, ready + ": told(" + what + ")", x.told(what), told[ready.ordinal()][what]);
            }
        }
    }

    /** NONE. */
    private static void toldOfNoNumber() {
        for (int what : Trials.beyond(0, 7)) {
            trials.refused(11, "told(" + what + ")", -1, x -> x.told(what));
        }
    }

    private static void toldOnlyAsks() {
        for (int what = 0; what <= 7; what++) {
            int asked = what;
            trials.asks(11, "told(" + what + ")", x -> x.told(asked));
        }
    }

    // ---- what "Terms" 1 says of ROWS

    /** ROWS 0 .. LEADS times CHANGES: each number of LEADS, each number of CHANGES. */
    private static void numbersOfRows() {
        for (int leads = 1; leads <= 12; leads++) {
            Counted x = new Counted();
            x.bells(8);
            x.leads(leads);
            for (int changes = 1; changes <= 16; changes++) {
                x.change(changes % 2 == 1 ? 0 : 129);
                int last = leads * changes;
                due.is(11, "told(3) of " + leads + " by " + changes, x.told(3), last);
                due.holds("12: there is ROW " + last, x.at(last, 8) >= 1);
                due.is(12, "there is no ROW " + (last + 1), x.at(last + 1, 8), -1);
                due.holds("13: there is ROW " + last, x.where(last, 8) >= 1);
                due.is(13, "there is no ROW " + (last + 1), x.where(last + 1, 8), -1);
                due.holds("14: there is ROW " + last, x.same(last) >= 0);
                due.is(14, "there is no ROW " + (last + 1), x.same(last + 1), -1);
            }
        }
    }

    /** Without CHANGES ROW 0 alone, whatever LEADS, CALLS, BOB and SINGLE are. */
    private static void rowZeroAloneWithoutChanges() {
        for (Ready ready : new Ready[] {Ready.NEW, Ready.BARE}) {
            Counted x = ready.make();
            due.is(11, ready + ": told(1)", x.told(1), 0);
            tells(x, ready.toString(), 0, -5, -5, 0);
            due.is(11, ready + ": COURSE", x.told(7), 0);
            due.text(12, ready + ": ROW 0", x.row(0, ready.n), "12345678".substring(0, ready.n));
            due.is(12, ready + ": at(1, 1)", x.at(1, 1), -1);
            due.is(14, ready + ": same(0)", x.same(0), 0);
            due.is(14, ready + ": same(1)", x.same(1), -1);
        }
        Counted x = new Counted();
        x.leads(12);
        x.change(33);
        due.is(11, "12 ROWS", x.told(3), 12);
        x.event(2, 16);
        due.is(25, "no ROUND without CHANGES", x.after(0), -5);
    }

    /** But for its last one BOB, SINGLE, as it is CALLED: in the first, a middle and the last LEAD. */
    private static void lastChangeOfALead() {
        Counted plain = read("n6;m16x34;b14;s123456;cppp");
        due.text(12, "ROW 1 of ppp", plain.row(1, 6), "132546");
        due.text(12, "ROW 2 of ppp", plain.row(2, 6), "315264");
        due.text(12, "ROW 3 of ppp", plain.row(3, 6), "135246");
        for (String calls : new String[] {"ppp", "bpp", "pbp", "ppb", "spp", "psp", "pps", "bsb", "sbs", "bbb", "sss"}) {
            Counted x = read("n6;m16x34;b14;s123456;c" + calls);
            due.is(11, "ROWS of " + calls, x.told(3), 9);
            for (int r = 0; r <= 9; r++) {
                due.text(12, "ROW " + r + " of " + calls, x.row(r, 6), rowBy(r, calls));
            }
        }
    }

    /** ROW r of 16, none, 34; by a BOB 14, by a SINGLE all are kept: by strings alone. */
    private static String rowBy(int r, String calls) {
        String row = "123456";
        for (int i = 0; i < r; i++) {
            char call = calls.charAt(i / 3);
            String kept = i % 3 == 0 ? "16" : i % 3 == 1 ? "" : call == 'p' ? "34" : call == 'b' ? "14" : "123456";
            row = by(row, kept);
        }
        return row;
    }

    private static String by(String row, String kept) {
        StringBuilder next = new StringBuilder();
        for (int p = 0; p < row.length(); p++) {
            if (kept.indexOf('1' + p) >= 0) {
                next.append(row.charAt(p));
            } else {
                next.append(row.charAt(p + 1)).append(row.charAt(p));
                p++;
            }
        }
        return next.toString();
    }

    /** Of a METHOD of one CHANGE the BOB, the SINGLE is all of the LEAD. */
    private static void aMethodOfOneChange() {
        Counted x = read("n4;mx;b14;s1234;cpbsp");
        String[] rows = {"1234", "2143", "2413", "2413", "4231"};
        for (int r = 0; r <= 4; r++) {
            due.text(12, "ROW " + r, x.row(r, 4), rows[r]);
        }
        tells(x, "cpbsp", 4, -5, 3, 0);
    }

    /** "Terms" 1: a ROW has each BELL once; at and where tell the same. */
    private static void eachBellOnce() {
        for (Ready ready : Ready.values()) {
            for (int r = 0; r <= ready.last; r++) {
                Counted x = ready.make();
                int bells = 0;
                for (int place = 1; place <= ready.n; place++) {
                    int bell = x.at(r, place);
                    bells |= 1 << bell;
                    due.is(13, ready + ": where(" + r + ", " + bell + ")", x.where(r, bell), place);
                }
                due.is(12, ready + ": BELLS of ROW " + r, bells, (1 << (ready.n + 1)) - 2);
            }
        }
    }

    /** ROUND: the first ROW behind 0; ROW 0 itself isn't one; it may be ROW 1, and the last one. */
    private static void roundIsBehindRowZero() {
        tells(new Counted(), "no CHANGES", 0, -5, -5, 0);
        tells(read("n4;m1234"), "1234", 1, 1, -5, 1);
        tells(read("n4;m1234x"), "1234x", 2, 1, 1, 0);
        tells(read("n4;mx"), "x", 1, -5, -5, 0);
        tells(read("n4;mxx"), "xx", 2, 2, -5, 1);
        tells(read("n4;mxxxx"), "xxxx", 4, 2, 2, 0);
        tells(read("n4;mxx14"), "xx14", 3, 2, 2, 0);
        tells(read("n4;mx14x14x14x1"), "m refused", 0, -5, -5, 0);
        tells(read("n4;mx14x14x14x14"), "a hunt", 8, 8, -5, 1);
        tells(read("n4;mx14x14x14x14;cpp"), "two hunts", 16, 8, 8, 0);
        tells(read("n4;m1234;cpppppppppppp"), "1234, 12 LEADS", 12, 1, 1, 0);
    }

    /** FALSE: the first ROW r (behind 0) that is as one ahead of it: ROW 0 or another one. */
    private static void falseBehindRowZero() {
        tells(read("n4;mx1234"), "as ROW 1", 2, -5, 2, 0);
        tells(read("n4;mx1234x"), "as ROW 1, then ROUNDS", 3, 3, 2, 0);
        tells(read("n4;mx14.14"), "as ROW 1, the last one", 3, -5, 3, 0);
        tells(read("n4;mx14.14x"), "as ROW 1, then ROUNDS", 4, 4, 3, 0);
        tells(read("n4;mx14.14.14"), "as ROWS 1 and 2", 4, -5, 3, 0);
        tells(read("n4;mx14x1234"), "as the one right ahead", 4, -5, 4, 0);
        tells(read("n4;mx14x14"), "none", 4, -5, -5, 0);
    }

    /** Not if r is the last one and that is ROW 0; but if it is the last one and that is another. */
    private static void falseAtTheLastRow() {
        tells(read("n4;mxx"), "the last is as ROW 0", 2, 2, -5, 1);
        tells(read("n4;mxxx"), "one behind it", 3, 2, 2, 0);
        tells(read("n4;mx1234"), "the last is as ROW 1", 2, -5, 2, 0);
        tells(read("n4;mx14x14x14x12;cppp"), "the last of 24", 24, 24, -5, 1);
        tells(read("n4;mx14x14x14x12;cpppp"), "24 of 32", 32, 24, 24, 0);
        tells(read("n4;mx14x14x14x12;cpppppp"), "the last is as ROW 0, so is 24", 48, 24, 24, 0);
        tells(read("n4;m1234;cp"), "ROW 1, the last", 1, 1, -5, 1);
        tells(read("n4;m1234;cpp"), "ROW 1, not the last", 2, 1, 1, 0);
        tells(read("n8;mx18x18x18x18x18x18x18x12;cppppppp"), "the last of 112", 112, 112, -5, 1);
        tells(read("n8;mx18x18x18x18x18x18x18x12;cpppppppppppp"), "112 of 192", 192, 112, 112, 0);
        tells(read("n8;mx18x18x18x18x18x18x18x12;b14;s1234;cppsppsppsppb"), "192 ROWS", 192, -5, -5, 0);
    }

    /** TRUE: the last ROW isn't 0, it is ROUNDS, and there is no FALSE one: each alone is not enough. */
    private static void trueOnlyIfAll() {
        tells(new Counted(), "the last ROW is 0", 0, -5, -5, 0);
        tells(read("n4;mx"), "not ROUNDS", 1, -5, -5, 0);
        tells(read("n4;mxxxx"), "ROUNDS, but FALSE", 4, 2, 2, 0);
        tells(read("n4;mx1234x"), "ROUNDS at the end alone, but FALSE", 3, 3, 2, 0);
        tells(read("n4;mxxx"), "neither", 3, 2, 2, 0);
        tells(read("n4;mxx"), "all", 2, 2, -5, 1);
    }

    /** COURSE 0: no CHANGES; it needs no ROWS but its own. */
    private static void courseOfNone() {
        Counted x = new Counted();
        due.is(11, "COURSE of no CHANGES", x.told(7), 0);
        x.calls(1, 0);
        x.leads(12);
        x.call(0, 1);
        due.is(11, "COURSE of no CHANGES, a BOB", x.told(7), 0);
        x.change(63);
        due.is(11, "COURSE of one that keeps all", x.told(7), 1);
    }

    /** How many LEADS: each length that 8 BELLS can take, also more than 12, and those of fewer BELLS. */
    private static void courseOfEachLength() {
        String[] methods = {"n8;m12345678", "n8;mx", "n8;m345678.145678", "n4;m34.14", "n6;mx16", "n4;mx14", "n5;m5.1",
            "n8;mx18", "n7;m7.1", "n8;m345678.145678.123678.123478.123458.123456", "n7;m34567.14567.12367.12347.12345",
            "n8;m345678.123678.123478.123458", "n8;m345678.145678.123478.123458", "n8;m3456.1458.1238.12"};
        for (String method : methods) {
            Counted x = read(method);
            due.is(11, "COURSE of " + method, x.told(7), courseOf(x, x.told(0), x.told(1)));
        }
        due.is(11, "COURSE of 3 and 5", read("n8;m345678.145678.123678.123478.123458.123456").told(7), 15);
        due.is(11, "COURSE of 3 and 4", read("n7;m34567.14567.12367.12347.12345").told(7), 12);
        due.is(11, "COURSE of 8", read("n8;mx18").told(7), 8);
        due.is(11, "COURSE of 7", read("n7;m7.1").told(7), 7);
        due.is(11, "COURSE of 6", read("n6;mx16").told(7), 6);
        due.is(11, "COURSE of 5", read("n5;m5.1").told(7), 5);
        due.is(11, "COURSE of 4", read("n4;mx14").told(7), 4);
        due.is(11, "COURSE of 3", read("n4;mx14x14x14x12").told(7), 3);
        due.is(11, "COURSE of 2", read("n8;mx").told(7), 2);
        due.is(11, "COURSE of 1", read("n8;mx18x18x18x18x18x18x18x18").told(7), 1);
    }

    /** By the PLACES that one LEAD brings the BELLS to, told by the first LEAD's end. */
    private static int courseOf(Counted x, int n, int changes) {
        String end = x.row(changes, n);
        String at = end;
        int leads = 1;
        while (!at.equals("12345678".substring(0, n))) {
            StringBuilder next = new StringBuilder();
            for (int p = 0; p < n; p++) {
                next.append(at.charAt(end.charAt(p) - '1'));
            }
            at = next.toString();
            leads++;
        }
        return leads;
    }

    /** All PLAIN, whatever LEADS and CALLS there are. */
    private static void courseIsPlain() {
        for (String calls : new String[] {"p", "b", "s", "bbbbbbbbbbbb", "pps"}) {
            Counted x = read("n6;mx16x16x16x16x16x12;b14;s123456;c" + calls);
            due.is(11, "COURSE, whatever is CALLED", x.told(7), 5);
        }
    }

    // ---- promises 12 to 15

    /** The BELL of a ROW in a PLACE, the PLACE of a BELL in a ROW: the first, the last ROW, PLACE, BELL. */
    private static void rowsAsked() {
        Counted x = Ready.TRUE.make();
        due.is(12, "at(0, 1)", x.at(0, 1), 1);
        due.is(12, "at(0, 6)", x.at(0, 6), 6);
        due.is(12, "at(36, 1)", x.at(36, 1), 1);
        due.is(12, "at(36, 6)", x.at(36, 6), 6);
        due.is(12, "at(35, 6)", x.at(35, 6), 5);
        due.is(12, "at(35, 1)", x.at(35, 1), 1);
        due.is(13, "where(0, 1)", x.where(0, 1), 1);
        due.is(13, "where(0, 6)", x.where(0, 6), 6);
        due.is(13, "where(35, 6)", x.where(35, 6), 5);
        due.is(13, "where(36, 6)", x.where(36, 6), 6);
        for (int row : new int[] {0, 1}) {
            trials.asks(12, "at(" + row + ", 4)", y -> y.at(row, 4));
            trials.asks(13, "where(" + row + ", 4)", y -> y.where(row, 4));
            trials.asks(14, "same(" + row + ")", y -> y.same(row));
        }
        trials.asks(12, "at(192, 8)", y -> y.at(192, 8));
        trials.asks(13, "where(192, 8)", y -> y.where(192, 8));
        trials.asks(14, "same(192)", y -> y.same(192));
    }

    /** NONE: row, place (1 .. n), bell (1 .. n); both at once, too. */
    private static void rowsAskedInVain() {
        for (Ready ready : Ready.values()) {
            for (int row : Trials.beyond(0, ready.last)) {
                trials.refused(ready, 12, "at(" + row + ", 1)", -1, x -> x.at(row, 1));
                trials.refused(ready, 13, "where(" + row + ", 1)", -1, x -> x.where(row, 1));
                trials.refused(ready, 12, "at(" + row + ", 0)", -1, x -> x.at(row, 0));
                trials.refused(ready, 13, "where(" + row + ", 9)", -1, x -> x.where(row, 9));
            }
            for (int number : Trials.beyond(1, ready.n)) {
                trials.refused(ready, 12, "at(0, " + number + ")", -1, x -> x.at(0, number));
                trials.refused(ready, 13, "where(0, " + number + ")", -1, x -> x.where(0, number));
                trials.refused(ready, 12, "at(last, " + number + ")", -1, x -> x.at(ready.last, number));
                trials.refused(ready, 13, "where(last, " + number + ")", -1, x -> x.where(ready.last, number));
            }
        }
    }

    /** The first ROW that is as this one: itself, one ahead, ROW 0, one of several. */
    private static void sameOfRows() {
        Counted x = read("n4;mx14.14x1234x");
        int[] same = {0, 1, 2, 1, 0, 0, 1};
        for (int r = 0; r <= 6; r++) {
            due.is(14, "same(" + r + ")", x.same(r), same[r]);
        }
        x = read("n4;m1234;cpppppppppppp");
        for (int r = 0; r <= 12; r++) {
            due.is(14, "same(" + r + ") of ROUNDS", x.same(r), 0);
        }
        x = Ready.FULL.make();
        for (int r = 0; r <= 192; r++) {
            due.is(14, "same(" + r + ") of 192", x.same(r), r);
        }
    }

    /** NONE: row. */
    private static void sameInVain() {
        for (Ready ready : Ready.values()) {
            for (int row : Trials.beyond(0, ready.last)) {
                trials.refused(ready, 14, "same(" + row + ")", -1, x -> x.same(row));
            }
        }
    }

    /** Promise 15: 1, 0; BAD: places (0 .. 2 to the n, less 1). */
    private static void goodOfBounds() {
        for (Ready ready : Ready.values()) {
            int all = (1 << ready.n) - 1;
            for (int places : Trials.beyond(0, all)) {
                trials.refused(ready, 15, "good(" + places + ")", -2, x -> x.good(places));
            }
            Counted x = ready.make();
            due.is(15, ready + ": good(0)", x.good(0), 1 - ready.n % 2);
            due.is(15, ready + ": good(all)", x.good(all), 1);
            due.is(15, ready + ": good(1)", x.good(1), ready.n % 2);
            due.is(15, ready + ": good(2)", x.good(2), 0);
            due.is(15, ready + ": good(all but one)", x.good(all - 1), 0);
            due.is(15, ready + ": good(all but two)", x.good(all - 3), 1);
            trials.asks(ready, 15, "good(0)", y -> y.good(0));
            trials.asks(ready, 15, "good(1)", y -> y.good(1));
            trials.asks(ready, 15, "good(all)", y -> y.good(all));
        }
    }
}
