/** The boundary cases of promises 4 to 8: BOB and SINGLE, CALLS, LEADS, the PATTERN, THE TEXT's bytes. */
public final class CallsBoundsTests {
    private static final Due due = new Due();
    private static final Trials trials = new Trials(due);
    private static final int[] WHATS = Trials.beyond(1, 2);
    private static final int[] LEADS = Trials.beyond(0, 11);
    private static final int[] CALLS = Trials.beyond(0, 2);

    public static void main(String[] args) {
        callsOfNoNumber();
        callsRefusedAsBad();
        callsRefusedAsNotGood();
        callsOfSeveralRefusals();
        callsTellWhetherThereWasOne();
        callsOfEachGoodChange();
        callOfEachLead();
        callOfNoLead();
        callRefusedAsBad();
        callOfSeveralRefusals();
        callWithoutAChange();
        leadsFromOneToTwelve();
        leadsRefused();
        leadsLeaveTheRest();
        patternOfEachPlace();
        patternOfNoPlace();
        patternRefusedAsBad();
        patternOfSeveralRefusals();
        feedsEachSign();
        feedRefused();
        feedsUpToHundred();
        feedOfSeveralRefusals();
        due.end("CallsBoundsTests");
    }

    // ---- promise 4

    /** NONE: what (BOB 1, SINGLE 2). */
    private static void callsOfNoNumber() {
        for (int what : WHATS) {
            trials.refused(4, "calls(" + what + ", 15)", -1, x -> x.calls(what, 15));
            trials.refused(4, "calls(" + what + ", -1)", -1, x -> x.calls(what, -1));
        }
    }

    /** BAD: places (0 .. 2 to the n, less 1, and -1: none). */
    private static void callsRefusedAsBad() {
        for (Ready ready : Ready.values()) {
            for (int what = 1; what <= 2; what++) {
                for (int places : Trials.beyond(-1, (1 << ready.n) - 1)) {
                    int sort = what;
                    trials.refused(ready, 4, "calls(" + what + ", " + places + ")", -2, x -> x.calls(sort, places));
                }
            }
        }
    }

    /** STATE: it isn't GOOD. */
    private static void callsRefusedAsNotGood() {
        for (Ready ready : Ready.values()) {
            for (int what = 1; what <= 2; what++) {
                for (int place = 2; place <= ready.n; place += 2) {
                    int sort = what;
                    int places = 1 << (place - 1);
                    trials.refused(ready, 4, "calls(" + what + ", " + places + ")", -3, x -> x.calls(sort, places));
                }
            }
        }
        trials.refused(Ready.ODD, 4, "calls(1, 0) of 5", -3, x -> x.calls(1, 0));
        trials.refused(Ready.ODD, 4, "calls(2, 0) of 5", -3, x -> x.calls(2, 0));
    }

    /** NONE is named ahead of BAD, BAD ahead of STATE. */
    private static void callsOfSeveralRefusals() {
        for (int what : new int[] {0, 3, -1, Integer.MIN_VALUE, Integer.MAX_VALUE}) {
            for (int places : new int[] {-2, 256, 2, Integer.MIN_VALUE, Integer.MAX_VALUE}) {
                trials.refused(4, "calls(" + what + ", " + places + ")", -1, x -> x.calls(what, places));
            }
        }
        trials.refused(4, "calls(1, 257), BAD ahead of STATE", -2, x -> x.calls(1, 257));
        trials.refused(4, "calls(2, 257), BAD ahead of STATE", -2, x -> x.calls(2, 257));
    }

    /** Whether there was one (1, 0); none at first; places -1: none; PLACES 0 are one. */
    private static void callsTellWhetherThereWasOne() {
        for (int what = 1; what <= 2; what++) {
            Counted x = new Counted();
            int other = 3 - what;
            due.is(4, "of(" + what + ") at first", x.of(what, 0), -5);
            due.is(4, "none to none", x.calls(what, -1), 0);
            due.is(4, "of(" + what + ")", x.of(what, 0), -5);
            due.is(4, "none to 0", x.calls(what, 0), 0);
            due.is(4, "of(" + what + ")", x.of(what, 0), 0);
            due.is(4, "0 to 63", x.calls(what, 63), 1);
            due.is(4, "of(" + what + ")", x.of(what, 0), 63);
            due.is(4, "63 to 63", x.calls(what, 63), 1);
            due.is(4, "63 to none", x.calls(what, -1), 1);
            due.is(4, "of(" + what + ")", x.of(what, 0), -5);
            due.is(4, "none to none", x.calls(what, -1), 0);
            due.is(4, "the other one is none", x.of(other, 0), -5);
            due.is(4, "the other one, none to 33", x.calls(other, 33), 0);
            due.is(4, "none to 12", x.calls(what, 12), 0);
            due.is(4, "the other one stays", x.of(other, 0), 33);
        }
    }

    /** Each of 0 .. 2 to the n, less 1, for BOB and for SINGLE. */
    private static void callsOfEachGoodChange() {
        for (int n = 4; n <= 8; n++) {
            for (int what = 1; what <= 2; what++) {
                for (int places = 0; places < 1 << n; places++) {
                    Counted x = new Counted();
                    x.bells(n);
                    boolean good = x.good(places) == 1;
                    due.is(4, "calls(" + what + ", " + places + ") of " + n, x.calls(what, places), good ? 0 : -3);
                    due.is(4, "of(" + what + ", 0)", x.of(what, 0), good ? places : -5);
                    due.is(4, "of(" + (3 - what) + ", 0)", x.of(3 - what, 0), -5);
                }
            }
        }
    }

    // ---- promise 5

    /** CALL of a LEAD (0 .. 11) becomes so (0 .. 2): which it was; the others stay, PLAIN at first. */
    private static void callOfEachLead() {
        for (int lead = 0; lead <= 11; lead++) {
            Counted x = new Counted();
            int[] calls = {1, 1, 2, 2, 0, 0, 2, 1, 0};
            int was = 0;
            for (int call : calls) {
                due.is(5, "call(" + lead + ", " + call + ")", x.call(lead, call), was);
                for (int other = 0; other <= 11; other++) {
                    due.is(5, "of(3, " + other + ")", x.of(3, other), other == lead ? call : 0);
                }
                was = call;
            }
        }
    }

    /** NONE: lead (0 .. 11), also where there are fewer LEADS. */
    private static void callOfNoLead() {
        for (int lead : LEADS) {
            for (int call = 0; call <= 2; call++) {
                int sort = call;
                trials.refused(5, "call(" + lead + ", " + call + ")", -1, x -> x.call(lead, sort));
            }
        }
        due.is(5, "call(11, 2) of one LEAD", new Counted().call(11, 2), 0);
    }

    /** BAD: call (0 .. 2). */
    private static void callRefusedAsBad() {
        for (int call : CALLS) {
            trials.refused(5, "call(0, " + call + ")", -2, x -> x.call(0, call));
            trials.refused(5, "call(11, " + call + ")", -2, x -> x.call(11, call));
        }
    }

    /** NONE is named ahead of BAD. */
    private static void callOfSeveralRefusals() {
        for (int lead : new int[] {-1, 12, Integer.MIN_VALUE, Integer.MAX_VALUE}) {
            for (int call : new int[] {-1, 3, Integer.MIN_VALUE, Integer.MAX_VALUE}) {
                trials.refused(5, "call(" + lead + ", " + call + ")", -1, x -> x.call(lead, call));
            }
        }
    }

    /** A LEAD may be CALLED so also where there is no BOB, no SINGLE: the last CHANGE is as it is then. */
    private static void callWithoutAChange() {
        Counted x = new Counted();
        x.change(33);
        due.is(5, "a BOB where there is none", x.call(0, 1), 0);
        due.text(5, "ROW 1", x.row(1, 6), "132546");
        due.is(5, "a SINGLE where there is none", x.call(0, 2), 1);
        due.text(5, "ROW 1", x.row(1, 6), "132546");
        x.calls(1, 0);
        due.text(5, "ROW 1: there is a BOB alone", x.row(1, 6), "132546");
        x.calls(2, 63);
        due.text(5, "ROW 1: now there is a SINGLE", x.row(1, 6), "123456");
        x.call(0, 1);
        due.text(5, "ROW 1 by the BOB", x.row(1, 6), "214365");
        x.call(0, 0);
        due.text(5, "ROW 1, PLAIN", x.row(1, 6), "132546");
        x.call(0, 1);
        x.calls(1, -1);
        due.text(5, "ROW 1: there is a SINGLE alone", x.row(1, 6), "132546");
    }

    // ---- promise 6

    /** LEADS (1 .. 12; 1 at first) become so many: how many there were. */
    private static void leadsFromOneToTwelve() {
        for (int from = 1; from <= 12; from++) {
            for (int n = 1; n <= 12; n++) {
                Counted x = new Counted();
                x.change(0);
                due.is(6, "leads(" + from + ") at first", x.leads(from), 1);
                due.is(6, "leads(" + n + ")", x.leads(n), from);
                due.is(6, "told(2)", x.told(2), n);
                due.is(6, "told(3)", x.told(3), n);
                due.is(6, "a ROW " + n, x.at(n, 1), n % 2 + 1);
                due.is(6, "no ROW " + (n + 1), x.at(n + 1, 1), -1);
            }
        }
    }

    /** BAD. */
    private static void leadsRefused() {
        for (int n : Trials.beyond(1, 12)) {
            trials.refused(6, "leads(" + n + ")", -2, x -> x.leads(n));
        }
    }

    /** CALLS stay by fewer LEADS, and are so again by more. */
    private static void leadsLeaveTheRest() {
        Counted x = Ready.FULL.make();
        due.is(6, "leads(1)", x.leads(1), 12);
        int[] calls = {2, 1, 0, 2, 1, 0, 2, 1, 0, 2, 1, 0};
        for (int lead = 0; lead <= 11; lead++) {
            due.is(6, "of(3, " + lead + ")", x.of(3, lead), calls[lead]);
        }
        due.is(6, "leads(12)", x.leads(12), 1);
        due.is(6, "count(0)", x.count(0), 5);
        due.is(6, "told(3)", x.told(3), 192);
    }

    // ---- promise 7

    /** The PATTERN has a BELL (0 .. 8; 0 any) in a PLACE (1 .. 8), whatever n is: which it had. */
    private static void patternOfEachPlace() {
        for (int n = 4; n <= 8; n += 2) {
            for (int place = 1; place <= 8; place++) {
                Counted x = new Counted();
                x.bells(n);
                int was = 0;
                for (int bell : new int[] {8, 8, 1, 0, 2, 3, 4, 5, 6, 7, 0}) {
                    due.is(7, "pattern(" + place + ", " + bell + ") of " + n, x.pattern(place, bell), was);
                    was = bell;
                }
                x.pattern(place, 5);
                for (int other = 1; other <= 8; other++) {
                    due.is(7, "PLACE " + other, x.pattern(other, 0), other == place ? 5 : 0);
                }
            }
        }
    }

    /** NONE: place (1 .. 8). */
    private static void patternOfNoPlace() {
        for (int place : Trials.beyond(1, 8)) {
            trials.refused(7, "pattern(" + place + ", 0)", -1, x -> x.pattern(place, 0));
            trials.refused(7, "pattern(" + place + ", 8)", -1, x -> x.pattern(place, 8));
        }
    }

    /** BAD: bell (0 .. 8). */
    private static void patternRefusedAsBad() {
        for (int bell : Trials.beyond(0, 8)) {
            trials.refused(7, "pattern(1, " + bell + ")", -2, x -> x.pattern(1, bell));
            trials.refused(7, "pattern(8, " + bell + ")", -2, x -> x.pattern(8, bell));
        }
    }

    /** NONE is named ahead of BAD. */
    private static void patternOfSeveralRefusals() {
        for (int place : new int[] {0, 9, Integer.MIN_VALUE, Integer.MAX_VALUE}) {
            for (int bell : new int[] {-1, 9, Integer.MIN_VALUE, Integer.MAX_VALUE}) {
                trials.refused(7, "pattern(" + place + ", " + bell + ")", -1, x -> x.pattern(place, bell));
            }
        }
    }

    // ---- promise 8

    /** A sign (0 .. 127) comes behind THE TEXT's: each of them does. */
    private static void feedsEachSign() {
        for (int sign = 0; sign <= 127; sign++) {
            Counted x = new Counted();
            due.is(8, "feed(" + sign + ")", x.feed(sign), 1);
            due.is(8, "feed(" + sign + ") again", x.feed(sign), 2);
            due.is(8, "count(3)", x.count(3), 2);
        }
        Counted x = new Counted().feeds("n");
        x.feed('4');
        due.is(8, "it comes behind", x.read(), 1);
        due.is(8, "n4", x.told(0), 4);
    }

    /** BAD. */
    private static void feedRefused() {
        for (int sign : Trials.beyond(0, 127)) {
            trials.refused(8, "feed(" + sign + ")", -2, x -> x.feed(sign));
        }
        for (int sign : new int[] {'n' + 128, 'n' + 256, 'n' - 128, 'n' - 256, 'n' + 65536, -('n' + 1)}) {
            trials.refused(8, "feed(" + sign + ")", -2, x -> x.feed(sign));
        }
    }

    /** How many it has; FULL: 100; what was there stays. */
    private static void feedsUpToHundred() {
        Counted x = new Counted();
        for (int i = 0; i < 100; i++) {
            due.is(8, "sign " + (i + 1), x.feed(Ready.FULL_TEXT.charAt(i)), i + 1);
        }
        for (int sign : new int[] {0, ';', 'x', 127}) {
            due.is(8, "a 101st", x.feed(sign), -4);
        }
        due.is(8, "count(3)", x.count(3), 100);
        due.is(8, "read()", x.read(), 4);
        due.is(8, "the last byte is done", x.of(3, 8), 2);
        due.is(8, "one LEAD further", x.of(3, 9), 0);
        due.is(8, "the first again", x.feed('n'), 1);
        trials.refused(Ready.FULL, 8, "feed(0), full", -4, y -> y.feed(0));
        trials.refused(Ready.FULL, 8, "feed(127), full", -4, y -> y.feed(127));
        trials.refused(Ready.FULL, 8, "feed('p'), full", -4, y -> y.feed('p'));
    }

    /** BAD is named ahead of FULL. */
    private static void feedOfSeveralRefusals() {
        for (int sign : new int[] {-1, 128, Integer.MIN_VALUE, Integer.MAX_VALUE}) {
            trials.refused(Ready.FULL, 8, "feed(" + sign + "), full", -2, x -> x.feed(sign));
        }
    }
}
