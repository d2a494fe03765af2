/** The boundary cases of "Terms" 1 that promises 1 to 3 name: BELLS, CHANGES, THE METHOD. */
public final class BellsBoundsTests {
    private static final Due due = new Due();
    private static final Trials trials = new Trials(due);

    public static void main(String[] args) {
        readyOnes();
        constants();
        newObject();
        bellsFromFourToEight();
        bellsRefused();
        bellsAlsoIfItStays();
        bellsEmptyAll();
        bellsLeaveTheRest();
        changesOfEachPlace();
        changesGoodOrNot();
        changesRefusedAsBad();
        changesRefusedAsNotGood();
        changesUpToSixteen();
        changeOfSeveralRefusals();
        changeComesLast();
        due.end("BellsBoundsTests");
    }

    /** No promise: the objects on which all these tests try calls are as they say. */
    private static void readyOnes() {
        for (Ready ready : Ready.values()) {
            Counted x = ready.make();
            due.is(0, ready + ": n", x.told(0), ready.n);
            due.is(0, ready + ": CHANGES", x.told(1), ready.changes);
            due.is(0, ready + ": the last ROW", x.told(3), ready.last);
            due.is(0, ready + ": whether it is TRUE", x.told(6), ready == Ready.TRUE ? 1 : 0);
            due.holds(ready + ": an IMAGE", x.undo() >= 0 == ready.hasImage());
        }
        int[] full = {5, 8, 8, 100};
        Counted x = Ready.FULL.make();
        for (int what = 0; what <= 3; what++) {
            due.is(0, "count(" + what + ") of a full one", x.count(what), full[what]);
        }
        due.is(0, "LEADS of a full one", x.told(2), 12);
        due.is(0, "all of the BOOK of a full one is looked at", x.looked(), -5);
        due.is(0, "THE TEXT of a full one", x.read(), 4);
    }

    private static void constants() {
        due.is(0, "NONE", BellTouches.NONE, -1);
        due.is(0, "BAD", BellTouches.BAD, -2);
        due.is(0, "STATE", BellTouches.STATE, -3);
        due.is(0, "FULL", BellTouches.FULL, -4);
        due.is(0, "NO", BellTouches.NO, -9223372036854775808L);
    }

    /** Promise 1: six BELLS, no CHANGES; and all that "Terms" say to be so at first. */
    private static void newObject() {
        Counted x = new Counted();
        int[] told = {6, 0, 1, 0, -5, -5, 0, 0};
        for (int what = 0; what <= 7; what++) {
            due.is(1, "told(" + what + ") of a new one", x.told(what), told[what]);
        }
        due.is(1, "no CHANGE", x.of(0, 0), -1);
        due.is(1, "no BOB", x.of(1, 0), -5);
        due.is(1, "no SINGLE", x.of(2, 0), -5);
        for (int lead = 0; lead <= 11; lead++) {
            due.is(1, "PLAIN, LEAD " + lead, x.of(3, lead), 0);
        }
        for (int what = 0; what <= 3; what++) {
            due.is(1, "count(" + what + ") of a new one", x.count(what), 0);
        }
        for (int tape = 0; tape <= 5; tape++) {
            due.is(1, "item of TAPE " + tape, x.item(tape, 0, 0), -11);
        }
        due.is(1, "no IMAGE", x.undo(), -3);
        due.text(1, "ROW 0", x.row(0, 6), "123456");
        due.is(1, "no ROW 1", x.at(1, 1), -1);
        due.is(1, "no PLACE 7", x.at(0, 7), -1);
        for (int place = 1; place <= 8; place++) {
            due.is(1, "PATTERN of PLACE " + place, x.pattern(place, 0), 0);
        }
        due.is(1, "nothing is looked at", x.looked(), -5);
        due.is(1, "THE TEXT is empty", x.read(), -10);
    }

    /** Promise 2: n 4 to 8, each from each; PLACES and BELLS go from 1 to n then. */
    private static void bellsFromFourToEight() {
        for (int from = 4; from <= 8; from++) {
            for (int n = 4; n <= 8; n++) {
                Counted x = new Counted();
                due.is(2, "bells(" + from + ")", x.bells(from), 6);
                due.is(2, "bells(" + n + ") from " + from, x.bells(n), from);
                due.is(2, "told(0)", x.told(0), n);
                due.text(2, "ROUNDS of " + n, x.row(0, n), "12345678".substring(0, n));
                due.is(2, "at(0, n + 1)", x.at(0, n + 1), -1);
                due.is(2, "where(0, n)", x.where(0, n), n);
                due.is(2, "where(0, n + 1)", x.where(0, n + 1), -1);
                due.is(2, "good(2 to the n, less 1)", x.good((1 << n) - 1), 1);
                due.is(2, "good(2 to the n)", x.good(1 << n), -2);
            }
        }
    }

    /** Promise 2: BAD. */
    private static void bellsRefused() {
        for (int n : Trials.beyond(4, 8)) {
            trials.refused(2, "bells(" + n + ")", -2, x -> x.bells(n));
        }
        for (int n : new int[] {-1, 0, 1, 2, 3, 9, 10, 16}) {
            trials.refused(2, "bells(" + n + ")", -2, x -> x.bells(n));
        }
    }

    /** Promise 2: also if n stays, it is as if all were made new, but for THE TEXT, TAPES, THE IMAGE. */
    private static void bellsAlsoIfItStays() {
        for (Ready ready : Ready.values()) {
            Counted x = ready.make();
            due.is(2, ready + ": bells(n) as it is", x.bells(ready.n), ready.n);
            due.is(2, ready + ": no CHANGES", x.told(1), 0);
            due.is(2, ready + ": one LEAD", x.told(2), 1);
            due.is(2, ready + ": bells(n) again", x.bells(ready.n), ready.n);
        }
    }

    /** Promise 2: what is so then, after as much of each as there may be. */
    private static void bellsEmptyAll() {
        for (int n = 4; n <= 8; n++) {
            Counted x = Ready.FULL.make();
            due.is(2, "bells(" + n + ") of a full one", x.bells(n), 8);
            due.is(2, "no CHANGES", x.told(1), 0);
            due.is(2, "of(0, 0)", x.of(0, 0), -1);
            due.is(2, "one LEAD", x.told(2), 1);
            due.is(2, "ROW 0 alone", x.told(3), 0);
            due.is(2, "no BOB", x.of(1, 0), -5);
            due.is(2, "no SINGLE", x.of(2, 0), -5);
            for (int lead = 0; lead <= 11; lead++) {
                due.is(2, "PLAIN, LEAD " + lead, x.of(3, lead), 0);
            }
            for (int place = 1; place <= 8; place++) {
                due.is(2, "any in PLACE " + place, x.pattern(place, 0), 0);
            }
            due.is(2, "SEEN is empty", x.count(0), 0);
            due.is(2, "EVENTS are empty", x.count(1), 0);
            due.is(2, "the BOOK is empty", x.count(2), 0);
            due.is(2, "looked()", x.looked(), -5);
            due.is(2, "the first of SEEN", x.see(0, 1, 1), 1);
            due.is(2, "the first of EVENTS", x.event(3, 1), 1);
            due.is(2, "the first of the BOOK", x.book(0, 1), 1);
            due.is(2, "the first CHANGE", x.change((1 << n) - 1), 1);
        }
    }

    /** Promise 2: what isn't named stays: THE TEXT, TAPES, THE IMAGE. */
    private static void bellsLeaveTheRest() {
        Counted x = Ready.FULL.make();
        x.bells(4);
        due.is(2, "THE TEXT stays", x.count(3), 100);
        for (int tape = 0; tape <= 5; tape++) {
            due.is(2, "TAPE " + tape + " stays", x.peek(tape, 58), tape == 4 ? 1 : -1);
        }
        due.is(2, "THE IMAGE stays", x.undo(), 5);
        due.is(2, "n of THE IMAGE", x.told(0), 7);
    }

    /** "Terms" 1: of PLACE p the bit 2 to the (p - 1): each PLACE kept alone, or with the last one. */
    private static void changesOfEachPlace() {
        String[] ofFive = {"13254", "", "21354", "", "21435"};
        String[] ofEight = {"13254768", "", "21354768", "", "21435768", "", "21436578", ""};
        for (int place = 1; place <= 5; place++) {
            Counted x = new Counted();
            x.bells(5);
            due.is(3, "only PLACE " + place + " of 5", x.change(1 << (place - 1)), place % 2 == 1 ? 1 : -3);
            due.text(3, "ROW 1, PLACE " + place + " of 5", place % 2 == 1 ? x.row(1, 5) : "", ofFive[place - 1]);
        }
        for (int place = 1; place <= 8; place++) {
            Counted x = new Counted();
            x.bells(8);
            boolean good = place % 2 == 1;
            due.is(3, "only PLACE " + place + " of 8", x.change(1 << (place - 1)), -3);
            due.is(3, "PLACES " + place + " and 8", x.change(1 << (place - 1) | 128), good ? 1 : -3);
            due.text(3, "ROW 1, PLACES " + place + " and 8", good ? x.row(1, 8) : "", ofEight[place - 1]);
        }
    }

    /** "Terms" 1: each set of PLACES of each n, whether it is GOOD, and the ROW that it makes. */
    private static void changesGoodOrNot() {
        for (int n = 4; n <= 8; n++) {
            Counted x = new Counted();
            x.bells(n);
            for (int places = 0; places < 1 << n; places++) {
                String row = byPlaces(n, places);
                due.is(15, "good(" + places + ") of " + n, x.good(places), row.isEmpty() ? 0 : 1);
            }
            for (int places = 0; places < 1 << n; places++) {
                String row = byPlaces(n, places);
                if (!row.isEmpty()) {
                    Counted y = new Counted();
                    y.bells(n);
                    due.is(3, "change(" + places + ") of " + n, y.change(places), 1);
                    due.text(3, "ROW 1 by " + places, y.row(1, n), row);
                }
            }
        }
    }

    /** ROUNDS by this CHANGE, bell by bell from 1 on; empty, if it isn't GOOD. */
    private static String byPlaces(int n, int places) {
        StringBuilder row = new StringBuilder();
        while (row.length() < n) {
            int place = row.length() + 1;
            if ((places >> (place - 1) & 1) == 1) {
                row.append(place);
            } else if (place < n && (places >> place & 1) == 0) {
                row.append(place + 1).append(place);
            } else {
                return "";
            }
        }
        return row.toString();
    }

    /** Promise 3: BAD: places (0 .. 2 to the n, less 1). */
    private static void changesRefusedAsBad() {
        for (Ready ready : Ready.values()) {
            for (int places : Trials.beyond(0, (1 << ready.n) - 1)) {
                trials.refused(ready, 3, "change(" + places + ")", -2, x -> x.change(places));
            }
            if (ready.changes < 16) {
                due.is(3, "change(2 to the n, less 1)", ready.make().change((1 << ready.n) - 1), ready.changes + 1);
                due.is(3, "change(0)", ready.make().change(0), ready.n % 2 == 0 ? ready.changes + 1 : -3);
            }
        }
    }

    /** Promise 3: STATE: it isn't GOOD (there is no next PLACE; the next one is kept). */
    private static void changesRefusedAsNotGood() {
        for (Ready ready : Ready.values()) {
            for (int places = 0; places < 1 << ready.n; places++) {
                int set = places;
                boolean isEdge = places < 8 || places >= (1 << ready.n) - 8 || Integer.bitCount(places) == 1;
                if (isEdge && byPlaces(ready.n, places).isEmpty()) {
                    trials.refused(ready, 3, "change(" + places + ")", -3, x -> x.change(set));
                }
            }
        }
    }

    /** Promise 3: FULL: 16; "Terms" 1: 16 at most. */
    private static void changesUpToSixteen() {
        for (int n = 4; n <= 8; n++) {
            Counted x = new Counted();
            x.bells(n);
            int all = (1 << n) - 1;
            int mirrored = n % 2 == 0 ? 1 | 1 << (n - 1) : 1;
            for (int i = 1; i <= 16; i++) {
                due.is(3, "CHANGE " + i + " of " + n, x.change(i % 2 == 0 ? all : mirrored), i);
                due.is(3, "how many", x.told(1), i);
            }
            due.is(3, "a 17th of " + n, x.change(all), -4);
            due.is(3, "a 17th of " + n + " again", x.change(mirrored), -4);
            due.is(3, "how many", x.told(1), 16);
            for (int k = 0; k <= 15; k++) {
                due.is(3, "of(0, " + k + ")", x.of(0, k), k % 2 == 1 ? all : mirrored);
            }
            due.is(3, "of(0, 16)", x.of(0, 16), -1);
        }
        trials.refused(Ready.FULL, 3, "change(0), full", -4, x -> x.change(0));
        trials.refused(Ready.FULL, 3, "change(255), full", -4, x -> x.change(255));
        trials.refused(Ready.FULL, 3, "change(129), full", -4, x -> x.change(129));
    }

    /** Promise 3: BAD is named ahead of STATE, STATE ahead of FULL. */
    private static void changeOfSeveralRefusals() {
        trials.refused(Ready.FULL, 3, "change(256), full", -2, x -> x.change(256));
        trials.refused(Ready.FULL, 3, "change(-1), full", -2, x -> x.change(-1));
        trials.refused(Ready.FULL, 3, "change(1), full", -3, x -> x.change(1));
        trials.refused(Ready.FULL, 3, "change(128), full", -3, x -> x.change(128));
        trials.refused(Ready.TRUE, 3, "change(65), BAD ahead of STATE", -2, x -> x.change(65));
        trials.refused(Ready.ODD, 3, "change(32), BAD ahead of STATE", -2, x -> x.change(32));
        trials.refused(Ready.FALSE, 3, "change(17), BAD ahead of STATE", -2, x -> x.change(17));
    }

    /** Promise 3: a CHANGE comes last, those that were there stay; one may come twice. */
    private static void changeComesLast() {
        Counted x = new Counted();
        int[] places = {0, 33, 33, 12, 63, 0};
        for (int i = 0; i < places.length; i++) {
            due.is(3, "change(" + places[i] + ")", x.change(places[i]), i + 1);
            for (int k = 0; k <= i; k++) {
                due.is(3, "of(0, " + k + ")", x.of(0, k), places[k]);
            }
            due.is(3, "of(0, " + (i + 1) + ")", x.of(0, i + 1), -1);
            due.is(3, "told(3)", x.told(3), i + 1);
        }
        due.text(3, "ROW 2", x.row(2, 6), "241635");
        due.text(3, "ROW 3", x.row(3, 6), "214365");
        due.text(3, "ROW 4", x.row(4, 6), "124356");
        due.text(3, "ROW 5", x.row(5, 6), "124356");
        due.text(3, "ROW 6", x.row(6, 6), "213465");
    }
}
