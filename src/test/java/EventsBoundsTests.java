/** The boundary cases of promises 24 to 27, and of what "Terms" 2 says of EVENTS, AFTER, the BOOK, LOOKED at. */
public final class EventsBoundsTests {
    private static final Due due = new Due();
    private static final Trials trials = new Trials(due);
    private static final int MIN = Integer.MIN_VALUE;
    private static final int MAX = Integer.MAX_VALUE;
    private static final int[] ANY = {MIN, -2, -1, 0, 1, 12, 13, 17, 99, MAX};

    public static void main(String[] args) {
        eventOfNoNumber();
        eventRefusedAsBad();
        eventBounds();
        eventsUpToEight();
        eventOfSeveralRefusals();
        eventsNoneThen();
        afterInVain();
        afterOnlyAsks();
        afterNoEvents();
        afterLeadsArePlain();
        afterLeadsAreBobs();
        afterLeadsBehindLeads();
        afterChangesAreNone();
        afterAsManyLeads();
        afterAllInTheirOrder();
        afterRoundAndFalse();
        bookOfNoNumber();
        bookBounds();
        bookUpToEight();
        bookOfSeveralRefusals();
        bookEmptyThen();
        lookedAtAnEmptyBook();
        lookedAtRowsThatAreThere();
        lookedAtBells();
        lookedAtTheFirst();
        lookedOnlyAsks();
        due.end("EventsBoundsTests");
    }

    private static Counted read(String text) {
        Counted x = new Counted();
        due.holds("9: no FAULT in " + text, x.reads(text) >= 0);
        return x;
    }

    // ---- promise 24

    /** NONE: what (0 .. 3; -1 is told apart), LEAD n (0 .. 11). */
    private static void eventOfNoNumber() {
        for (int what : Trials.beyond(-1, 3)) {
            for (int n : new int[] {MIN, -1, 0, 1, 11, 12, 17, MAX}) {
                trials.refused(24, "event(" + what + ", " + n + ")", -1, x -> x.event(what, n));
            }
        }
        for (int lead : Trials.beyond(0, 11)) {
            trials.refused(24, "event(0, " + lead + ")", -1, x -> x.event(0, lead));
            trials.refused(24, "event(1, " + lead + ")", -1, x -> x.event(1, lead));
        }
    }

    /** BAD: n CHANGES (0 .. 16), n LEADS (1 .. 12). */
    private static void eventRefusedAsBad() {
        for (int n : Trials.beyond(0, 16)) {
            trials.refused(24, "event(2, " + n + ")", -2, x -> x.event(2, n));
        }
        for (int n : Trials.beyond(1, 12)) {
            trials.refused(24, "event(3, " + n + ")", -2, x -> x.event(3, n));
        }
    }

    /** The least and the greatest n of each sort, and those beside them, also behind LEADS and CHANGES. */
    private static void eventBounds() {
        int[] least = {0, 0, 0, 1};
        int[] most = {11, 11, 16, 12};
        for (int what = 0; what <= 3; what++) {
            for (int n = least[what]; n <= most[what]; n++) {
                Counted x = new Counted();
                due.is(24, "event(" + what + ", " + n + ")", x.event(what, n), 1);
                due.is(24, "event(" + what + ", " + n + ") again", x.event(what, n), 2);
                due.is(31, "count(1)", x.count(1), 2);
            }
        }
    }

    /** How many there are; FULL: 8; one may come twice; those that were there stay. */
    private static void eventsUpToEight() {
        Counted x = read("n4;mxx");
        for (int i = 1; i <= 8; i++) {
            due.is(24, "the " + i + "th of EVENTS", x.event(2, 0), i);
            due.is(31, "count(1)", x.count(1), i);
        }
        due.is(24, "a ninth", x.event(2, 16), -4);
        due.is(24, "a ninth again", x.event(0, 0), -4);
        due.is(31, "count(1)", x.count(1), 8);
        due.is(25, "the ninth does not happen", x.after(2), 1);
        int[][] events = {{0, 0}, {0, 11}, {1, 0}, {1, 11}, {2, 0}, {2, 16}, {3, 1}, {3, 12}};
        for (int[] event : events) {
            String call = "event(" + event[0] + ", " + event[1] + "), full";
            trials.refused(Ready.FULL, 24, call, -4, y -> y.event(event[0], event[1]));
        }
    }

    /** NONE and BAD are named ahead of FULL, NONE (what) ahead of BAD. */
    private static void eventOfSeveralRefusals() {
        for (int n : new int[] {-1, 12, MIN, MAX}) {
            trials.refused(Ready.FULL, 24, "event(0, " + n + "), full", -1, x -> x.event(0, n));
            trials.refused(Ready.FULL, 24, "event(1, " + n + "), full", -1, x -> x.event(1, n));
        }
        for (int n : new int[] {-1, 17, MIN, MAX}) {
            trials.refused(Ready.FULL, 24, "event(2, " + n + "), full", -2, x -> x.event(2, n));
            trials.refused(Ready.FULL, 24, "event(4, " + n + "), full", -1, x -> x.event(4, n));
            trials.refused(Ready.FULL, 24, "event(-2, " + n + "), full", -1, x -> x.event(-2, n));
        }
        for (int n : new int[] {0, 13, MIN, MAX}) {
            trials.refused(Ready.FULL, 24, "event(3, " + n + "), full", -2, x -> x.event(3, n));
        }
    }

    /** What -1: none then, 0, whatever the rest is: empty, full; and eight may come again. */
    private static void eventsNoneThen() {
        for (Ready ready : Ready.values()) {
            for (int n : ANY) {
                Counted x = ready.make();
                due.is(24, ready + ": event(-1, " + n + ")", x.event(-1, n), 0);
                due.is(31, ready + ": count(1)", x.count(1), 0);
                due.is(31, ready + ": count(0)", x.count(0), ready.make().count(0));
                due.is(31, ready + ": count(2)", x.count(2), ready.make().count(2));
                due.is(25, ready + ": as THE TOUCH is: ROUND", x.after(0), x.told(4));
                due.is(25, ready + ": as THE TOUCH is: FALSE", x.after(1), x.told(5));
                due.is(25, ready + ": as THE TOUCH is: TRUE", x.after(2), x.told(6));
                due.is(24, ready + ": again", x.event(-1, n), 0);
                due.is(24, ready + ": the first again", x.event(3, 12), 1);
            }
        }
        Counted x = Ready.FULL.make();
        x.event(-1, 0);
        for (int i = 1; i <= 8; i++) {
            due.is(24, "the " + i + "th again", x.event(2, 16), i);
        }
        due.is(24, "a ninth again", x.event(2, 16), -4);
    }

    // ---- promise 25

    /** NONE: what (0 .. 2). */
    private static void afterInVain() {
        for (int what : Trials.beyond(0, 2)) {
            trials.refused(25, "after(" + what + ")", -1, x -> x.after(what));
        }
    }

    private static void afterOnlyAsks() {
        for (int what = 0; what <= 2; what++) {
            int asked = what;
            trials.asks(25, "after(" + what + ")", x -> x.after(asked));
        }
    }

    private static void after(String name, Counted x, int round, int falseRow, int isTrue) {
        due.is(25, "after(0), " + name, x.after(0), round);
        due.is(25, "after(1), " + name, x.after(1), falseRow);
        due.is(25, "after(2), " + name, x.after(2), isTrue);
    }

    /** No EVENTS: as THE TOUCH is. */
    private static void afterNoEvents() {
        after("a new one", new Counted(), -5, -5, 0);
        after("TRUE", read("n4;mx14x14x14x12;cppp"), 24, -5, 1);
        after("FALSE", read("n4;mx14x14x14x12;cpppp"), 24, 24, 0);
        after("not round", read("n4;mx14x14x14x12;cpp"), -5, -5, 0);
        Counted x = Ready.FULL.make();
        after("7 LEADS of 14 CHANGES: a hunt of 16 ROWS", x, 16, 16, 0);
        x.event(-1, 0);
        after("192 ROWS", x, -5, -5, 0);
    }

    /** 0: LEAD n is PLAIN, for each LEAD: then all are, and it comes round. */
    private static void afterLeadsArePlain() {
        for (int lead = 0; lead <= 11; lead++) {
            Counted x = read("n6;m12;b34;cpppppppppppp");
            x.leads(lead + 1);
            x.call(lead, 1);
            due.is(25, "LEAD " + lead + " is a BOB", x.after(1), bobFalse(lead));
            x.event(0, lead);
            due.is(25, "LEAD " + lead + " is PLAIN: ROUND", x.after(0), lead < 1 ? -5 : 2);
            due.is(25, "LEAD " + lead + " is PLAIN: TRUE", x.after(2), lead == 1 ? 1 : 0);
            due.is(10, "its CALL stays", x.of(3, lead), 1);
        }
        Counted x = read("n4;mx;b14;cs");
        x.call(0, 2);
        x.calls(2, 15);
        due.is(25, "a SINGLE", x.after(2), 1);
        x.event(0, 0);
        due.is(25, "a SINGLE is PLAIN then", x.after(2), 0);
    }

    /** 12 all the time, a BOB 34 last: ROWS are ROUNDS, one other, ROUNDS .. */
    private static int bobFalse(int lead) {
        return lead < 2 ? -5 : 2;
    }

    /** 1: LEAD n is a BOB, for each LEAD; where there is none, the last CHANGE stays as it is. */
    private static void afterLeadsAreBobs() {
        for (int lead = 0; lead <= 11; lead++) {
            Counted x = read("n4;m1234");
            x.calls(1, 0);
            x.leads(12);
            for (int other = 0; other <= 11; other++) {
                x.call(other, other == lead ? 0 : 1);
            }
            due.is(25, "all BOBS but LEAD " + lead, x.after(0), lead == 0 ? 1 : 2 <= lead ? 2 : 3);
            x.event(1, lead);
            after("all BOBS, LEAD " + lead + ", too", x, 2, 2, 0);
            due.is(10, "its CALL stays", x.of(3, lead), 0);
        }
        Counted x = read("n4;m1234;cp");
        x.event(1, 0);
        after("no BOB there", x, 1, -5, 1);
        x.calls(2, 0);
        after("a SINGLE alone there", x, 1, -5, 1);
        x.calls(1, 0);
        after("a BOB there", x, -5, -5, 0);
        x.call(0, 2);
        after("a BOB, it was a SINGLE", x, -5, -5, 0);
        x.calls(2, 15);
        due.is(11, "a SINGLE", x.told(6), 1);
        after("a BOB, it was a SINGLE", x, -5, -5, 0);
    }

    /** Each also behind LEADS: it shows by more LEADS. */
    private static void afterLeadsBehindLeads() {
        for (int lead = 1; lead <= 11; lead++) {
            Counted x = read("n4;mx;b1234;cp");
            x.event(1, lead);
            after("LEAD " + lead + " isn't there", x, -5, -5, 0);
            x.event(3, lead + 1);
            due.is(25, "LEAD " + lead + " is the last, a BOB", x.after(0), lead == 1 ? -5 : 2);
            due.is(25, "FALSE", x.after(1), 2);
            x.event(0, lead);
            due.is(25, "LEAD " + lead + " is PLAIN again", x.after(2), lead == 1 ? 1 : 0);
            due.is(11, "LEADS stay", x.told(2), 1);
        }
        Counted x = read("n4;mx;b1234;cpp");
        x.call(11, 1);
        x.event(0, 11);
        after("a LEAD that isn't there", x, 2, -5, 1);
        due.is(10, "its CALL stays", x.of(3, 11), 1);
    }

    /** 2: the last n CHANGES are none any more (n 0 .. 16; all, if there are fewer). */
    private static void afterChangesAreNone() {
        int[] round = {8, -5, -5, -5, -5, -5, -5, -5, -5, -5, -5, -5, -5, -5, -5, -5, -5};
        for (int n = 0; n <= 16; n++) {
            Counted x = read("n4;mx14x14x14x14");
            x.event(2, n);
            after("the last " + n + " of 8 are none", x, round[n], -5, n == 0 ? 1 : 0);
            due.is(11, "CHANGES stay", x.told(1), 8);
            x = read("n4;mxxxxxxxxxxxxxxxx");
            x.event(2, n);
            after("the last " + n + " of 16 are none", x, n <= 14 ? 2 : -5, n <= 13 ? 2 : -5, n == 14 ? 1 : 0);
            x = new Counted();
            x.event(2, n);
            after("the last " + n + " of no CHANGES", x, -5, -5, 0);
        }
        Counted x = read("n4;mxx14");
        x.event(2, 1);
        after("one is none", x, 2, -5, 1);
        x.event(2, 1);
        after("one more is none", x, -5, -5, 0);
        x.event(2, 16);
        after("16 more are none", x, -5, -5, 0);
        x = read("n4;mx14;bx;cb");
        x.event(2, 1);
        after("the BOB is for the last one that is left", x, -5, -5, 0);
        x.event(3, 2);
        x.event(1, 1);
        after("two BOBS alone", x, 2, -5, 1);
    }

    /** 3: there are n LEADS (1 .. 12), more or fewer. */
    private static void afterAsManyLeads() {
        for (int before = 1; before <= 12; before += 11) {
            for (int n = 1; n <= 12; n++) {
                Counted x = read("n5;m5.1;cpppppppppppp");
                x.leads(before);
                x.event(3, n);
                after(n + " LEADS", x, n < 5 ? -5 : 10, n <= 5 ? -5 : 10, n == 5 ? 1 : 0);
                due.is(11, "LEADS stay", x.told(2), before);
            }
        }
    }

    /** Behind all of it, one behind the other. */
    private static void afterAllInTheirOrder() {
        Counted x = read("n4;mx;b1234;cp");
        x.event(1, 0);
        x.event(0, 0);
        after("a BOB, then PLAIN", x, -5, -5, 0);
        x.event(-1, 0);
        x.event(0, 0);
        x.event(1, 0);
        after("PLAIN, then a BOB", x, 1, -5, 1);
        x.event(3, 12);
        x.event(3, 1);
        after("12 LEADS, then one", x, 1, -5, 1);
        for (int i = 0; i < 3; i++) {
            x.event(3, 12);
        }
        x.event(3, 1);
        due.is(31, "count(1)", x.count(1), 8);
        after("the eighth counts", x, 1, -5, 1);
    }

    /** ROUND (-5: none); FALSE (-5); whether it is TRUE: as "Terms" 1 say. */
    private static void afterRoundAndFalse() {
        Counted x = read("n4;mx1234x");
        x.event(2, 0);
        after("ROUNDS at the end, but FALSE", x, 3, 2, 0);
        x = read("n4;mx14.14");
        x.event(2, 0);
        after("FALSE at the last ROW", x, -5, 3, 0);
        x = read("n4;m1234");
        x.event(3, 12);
        after("ROUNDS all the time", x, 1, 1, 0);
        x.event(2, 1);
        after("ROW 0 alone", x, -5, -5, 0);
    }

    // ---- promise 26

    /** NONE: row (0 .. 192; -1 is told apart), bell (1 .. n). */
    private static void bookOfNoNumber() {
        for (int row : Trials.beyond(-1, 192)) {
            trials.refused(26, "book(" + row + ", 1)", -1, x -> x.book(row, 1));
            trials.refused(26, "book(" + row + ", 0)", -1, x -> x.book(row, 0));
        }
        for (Ready ready : Ready.values()) {
            for (int bell : Trials.beyond(1, ready.n)) {
                trials.refused(ready, 26, "book(0, " + bell + ")", -1, x -> x.book(0, bell));
                trials.refused(ready, 26, "book(192, " + bell + ")", -1, x -> x.book(192, bell));
                trials.refused(ready, 26, "book(193, " + bell + ")", -1, x -> x.book(193, bell));
            }
        }
    }

    /** The least and the greatest of each, of each n; also of a ROW that isn't there. */
    private static void bookBounds() {
        for (int n = 4; n <= 8; n++) {
            for (int row : new int[] {0, 1, 127, 128, 191, 192}) {
                Counted x = new Counted();
                x.bells(n);
                due.is(26, "book(" + row + ", 1)", x.book(row, 1), 1);
                due.is(26, "book(" + row + ", n)", x.book(row, n), 2);
                due.is(31, "count(2)", x.count(2), 2);
            }
        }
    }

    /** How many there are; FULL: 8; one may come twice; what was there stays. */
    private static void bookUpToEight() {
        Counted x = new Counted();
        for (int i = 1; i <= 8; i++) {
            due.is(26, "the " + i + "th of the BOOK", x.book(0, 1), i);
            due.is(31, "count(2)", x.count(2), i);
        }
        due.is(26, "a ninth", x.book(0, 2), -4);
        due.is(26, "a ninth again", x.book(0, 1), -4);
        due.is(31, "count(2)", x.count(2), 8);
        due.is(27, "the ninth is not LOOKED at", x.looked(), -5);
        trials.refused(Ready.FULL, 26, "book(0, 1), full", -4, y -> y.book(0, 1));
        trials.refused(Ready.FULL, 26, "book(192, 8), full", -4, y -> y.book(192, 8));
    }

    /** NONE is named ahead of FULL. */
    private static void bookOfSeveralRefusals() {
        for (int number : new int[] {0, 9, MIN, MAX}) {
            trials.refused(Ready.FULL, 26, "book(0, " + number + "), full", -1, x -> x.book(0, number));
        }
        for (int row : new int[] {-2, 193, MIN, MAX}) {
            trials.refused(Ready.FULL, 26, "book(" + row + ", 1), full", -1, x -> x.book(row, 1));
        }
    }

    /** Row -1: it is empty then, 0, whatever the rest is: empty, full; and eight may come again. */
    private static void bookEmptyThen() {
        for (Ready ready : Ready.values()) {
            for (int bell : ANY) {
                Counted x = ready.make();
                due.is(26, ready + ": book(-1, " + bell + ")", x.book(-1, bell), 0);
                due.is(31, ready + ": count(2)", x.count(2), 0);
                due.is(31, ready + ": count(0)", x.count(0), ready.make().count(0));
                due.is(31, ready + ": count(1)", x.count(1), ready.make().count(1));
                due.is(27, ready + ": looked()", x.looked(), -5);
                due.is(26, ready + ": again", x.book(-1, bell), 0);
                due.is(26, ready + ": the first again", x.book(0, 2), 1);
                due.is(27, ready + ": looked()", x.looked(), 0);
            }
        }
        Counted x = Ready.FULL.make();
        x.book(-1, 0);
        for (int i = 1; i <= 8; i++) {
            due.is(26, "the " + i + "th again", x.book(192, 8), i);
        }
        due.is(26, "a ninth again", x.book(192, 8), -4);
    }

    // ---- promise 27

    /** -5: none. */
    private static void lookedAtAnEmptyBook() {
        due.is(27, "looked() of a new one", new Counted().looked(), -5);
        Counted x = Ready.FULL.make();
        x.book(-1, 0);
        due.is(27, "looked() of an empty BOOK", x.looked(), -5);
    }

    /** A row whose ROW isn't there: one behind the last one. */
    private static void lookedAtRowsThatAreThere() {
        for (int bell = 1; bell <= 6; bell++) {
            Counted x = new Counted();
            x.book(1, bell);
            due.is(27, "no ROW 1", x.looked(), 0);
        }
        for (int leads = 1; leads <= 12; leads++) {
            Counted x = read("n4;m1234" + ".1234".repeat(15));
            x.leads(leads);
            x.book(16 * leads, 1);
            due.is(27, "the last ROW " + 16 * leads, x.looked(), -5);
            due.is(26, "one behind it", x.book(16 * leads + 1, 1), leads < 12 ? 2 : -1);
            due.is(27, "the ROW behind it", x.looked(), leads < 12 ? 1 : -5);
            x.leads(Math.min(12, leads + 1));
            due.is(27, "a further LEAD", x.looked(), -5);
        }
    }

    /** A row whose ROW doesn't begin with that BELL: of ROW 0, of the last one, of each BELL. */
    private static void lookedAtBells() {
        for (int n = 4; n <= 8; n++) {
            for (int bell = 1; bell <= n; bell++) {
                Counted x = read("n" + n + ";m" + (n % 2 == 0 ? "x" : String.valueOf(n)));
                x.book(0, bell);
                due.is(27, "ROW 0 begins with " + bell + "?", x.looked(), bell == 1 ? -5 : 0);
                x.book(-1, 0);
                x.book(1, bell);
                due.is(27, "ROW 1 begins with " + bell + "?", x.looked(), bell == 2 ? -5 : 0);
            }
        }
    }

    /** The number (from 0) of the first of these rows: each of 0 .. 7, also if one behind it isn't so. */
    private static void lookedAtTheFirst() {
        for (int wrong = 0; wrong <= 7; wrong++) {
            Counted x = read("n4;mx");
            Counted y = read("n4;mx");
            for (int i = 0; i <= 7; i++) {
                x.book(i % 2, i < wrong ? i % 2 + 1 : 4);
                y.book(i == wrong ? 2 : i % 2, i % 2 + 1);
            }
            due.is(27, "another BELL at " + wrong, x.looked(), wrong);
            due.is(27, "no such ROW at " + wrong, y.looked(), wrong);
        }
        Counted x = read("n4;mx");
        for (int i = 0; i <= 7; i++) {
            x.book(i % 2, i % 2 + 1);
        }
        due.is(27, "all eight are so", x.looked(), -5);
    }

    private static void lookedOnlyAsks() {
        trials.asks(27, "looked()", x -> x.looked());
    }
}
