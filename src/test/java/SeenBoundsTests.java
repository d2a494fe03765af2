/** The boundary cases of promises 20 to 27, and of what "Terms" 2 says of SEEN, ODDS, MEAN, EVENTS, the BOOK. */
public final class SeenBoundsTests {
    private static final Due due = new Due();
    private static final Trials trials = new Trials(due);
    private static final long NO = Long.MIN_VALUE;
    private static final int MIN = Integer.MIN_VALUE;
    private static final int MAX = Integer.MAX_VALUE;
    private static final int[] ANY = {MIN, -2, -1, 0, 1, 9, 99, 193, MAX};

    public static void main(String[] args) {
        seeOfNoNumber();
        seeBounds();
        seeUpToFive();
        seeOfSeveralRefusals();
        seeNoneThen();
        fitsInVain();
        fitsOnlyAsks();
        fitsOfNothingSeen();
        fitsWithoutChanges();
        fitsOfRowsThatAreThere();
        fitsOfTheFirstAndTheLastRow();
        fitsOfEachChange();
        fitsOfNone();
        fitsOfAllOfSeen();
        fitsOfTheLastChangeAlone();
        fitsByCalls();
        oddsInVain();
        oddsOnlyAsks();
        oddsOfAllRows();
        oddsInLowestTerms();
        meanInVain();
        meanOnlyAsks();
        meanOfAllRows();
        due.end("SeenBoundsTests");
    }

    private static Counted read(String text) {
        Counted x = new Counted();
        due.holds("9: no FAULT in " + text, x.reads(text) >= 0);
        return x;
    }

    // ---- promise 20

    /** NONE: row (0 .. 192; -1 is told apart), place (1 .. n), bell (1 .. n). */
    private static void seeOfNoNumber() {
        for (int row : Trials.beyond(-1, 192)) {
            trials.refused(20, "see(" + row + ", 1, 1)", -1, x -> x.see(row, 1, 1));
        }
        for (Ready ready : Ready.values()) {
            for (int number : Trials.beyond(1, ready.n)) {
                trials.refused(ready, 20, "see(0, " + number + ", 1)", -1, x -> x.see(0, number, 1));
                trials.refused(ready, 20, "see(0, 1, " + number + ")", -1, x -> x.see(0, 1, number));
                trials.refused(ready, 20, "see(192, " + number + ", n)", -1, x -> x.see(192, number, ready.n));
                trials.refused(ready, 20, "see(192, n, " + number + ")", -1, x -> x.see(192, ready.n, number));
                trials.refused(ready, 20, "see(193, " + number + ", 1)", -1, x -> x.see(193, number, 1));
                trials.refused(ready, 20, "see(-2, " + number + ", 1)", -1, x -> x.see(-2, number, number));
            }
        }
    }

    /** The least and the greatest of each, of each n; also of a ROW that isn't there. */
    private static void seeBounds() {
        for (int n = 4; n <= 8; n++) {
            for (int row : new int[] {0, 1, 127, 128, 191, 192}) {
                Counted x = new Counted();
                x.bells(n);
                due.is(20, "see(" + row + ", 1, 1)", x.see(row, 1, 1), 1);
                due.is(20, "see(" + row + ", n, 1)", x.see(row, n, 1), 2);
                due.is(20, "see(" + row + ", 1, n)", x.see(row, 1, n), 3);
                due.is(20, "see(" + row + ", n, n)", x.see(row, n, n), 4);
                due.is(31, "count(0)", x.count(0), 4);
            }
        }
    }

    /** How many there are; FULL: 5; one may come twice; what was SEEN stays. */
    private static void seeUpToFive() {
        Counted x = read("n4;m1234");
        for (int i = 1; i <= 5; i++) {
            due.is(20, "the " + i + "th of SEEN", x.see(1, 1, 1), i);
            due.is(31, "count(0)", x.count(0), i);
        }
        due.is(20, "a sixth", x.see(1, 1, 2), -4);
        due.is(20, "a sixth again", x.see(0, 1, 2), -4);
        due.is(31, "count(0)", x.count(0), 5);
        due.is(21, "the sixth is not SEEN", x.fits(0), 3);
        trials.refused(Ready.FULL, 20, "see(0, 1, 1), full", -4, y -> y.see(0, 1, 1));
        trials.refused(Ready.FULL, 20, "see(192, 8, 8), full", -4, y -> y.see(192, 8, 8));
        trials.refused(Ready.FULL, 20, "see(16, 1, 2), full", -4, y -> y.see(16, 1, 2));
    }

    /** NONE is named ahead of FULL. */
    private static void seeOfSeveralRefusals() {
        for (int row : new int[] {-2, 193, MIN, MAX}) {
            trials.refused(Ready.FULL, 20, "see(" + row + ", 1, 1), full", -1, x -> x.see(row, 1, 1));
        }
        for (int number : new int[] {0, 9, MIN, MAX}) {
            trials.refused(Ready.FULL, 20, "see(0, " + number + ", 1), full", -1, x -> x.see(0, number, 1));
            trials.refused(Ready.FULL, 20, "see(0, 1, " + number + "), full", -1, x -> x.see(0, 1, number));
        }
    }

    /** Row -1: none then, 0, whatever the rest is: empty, full; and five may come again. */
    private static void seeNoneThen() {
        for (Ready ready : Ready.values()) {
            for (int place : ANY) {
                for (int bell : new int[] {place, 1}) {
                    Counted x = ready.make();
                    due.is(20, ready + ": see(-1, " + place + ", " + bell + ")", x.see(-1, place, bell), 0);
                    due.is(31, ready + ": count(0)", x.count(0), 0);
                    due.is(31, ready + ": count(1)", x.count(1), ready.make().count(1));
                    due.is(31, ready + ": count(2)", x.count(2), ready.make().count(2));
                    due.is(20, ready + ": again", x.see(-1, bell, place), 0);
                    due.is(20, ready + ": the first again", x.see(192, 1, 1), 1);
                }
            }
        }
        Counted x = Ready.FULL.make();
        x.see(-1, 0, 0);
        for (int i = 1; i <= 5; i++) {
            due.is(20, "the " + i + "th again", x.see(192, 8, 8), i);
        }
        due.is(20, "a sixth again", x.see(192, 8, 8), -4);
    }

    // ---- promise 21

    /** NONE: what (0, 1). */
    private static void fitsInVain() {
        for (int what : Trials.beyond(0, 1)) {
            trials.refused(21, "fits(" + what + ")", -1, x -> x.fits(what));
        }
    }

    private static void fitsOnlyAsks() {
        trials.asks(21, "fits(0)", x -> x.fits(0));
        trials.asks(21, "fits(1)", x -> x.fits(1));
    }

    private static void fits(String name, Counted x, int count, int least) {
        due.is(21, "fits(0), " + name, x.fits(0), count);
        due.is(21, "fits(1), " + name, x.fits(1), least);
    }

    /** All GOOD CHANGES fit: the least is 0 of an even n, PLACE 1 alone of an odd one. */
    private static void fitsOfNothingSeen() {
        int[] good = {5, 8, 13, 21, 34};
        for (int n = 4; n <= 8; n++) {
            Counted x = read("n" + n + ";m" + "12345678".substring(0, n));
            fits("nothing SEEN of " + n, x, good[n - 4], n % 2);
            x.leads(12);
            fits("nothing SEEN of " + n + ", 12 LEADS", x, good[n - 4], n % 2);
            x.see(0, n, n);
            fits("ROW 0 SEEN of " + n, x, good[n - 4], n % 2);
        }
    }

    /** Without CHANGES none: whatever is SEEN, nothing, what is so, what isn't there. */
    private static void fitsWithoutChanges() {
        fits("a new one", new Counted(), 0, -5);
        fits("without CHANGES", Ready.BARE.make(), 0, -5);
        Counted x = new Counted();
        x.see(0, 1, 1);
        fits("ROW 0 is so", x, 0, -5);
        x.see(1, 1, 2);
        fits("no ROW 1", x, 0, -5);
        x.change(63);
        fits("a CHANGE", x, 5, 0);
    }

    /** All of SEEN whose ROWS are there: the one behind the last ROW doesn't count, the last one does. */
    private static void fitsOfRowsThatAreThere() {
        Counted x = read("n4;mx14");
        x.see(3, 1, 1);
        x.see(192, 1, 1);
        fits("ROWS 3 and 192 aren't there", x, 5, 0);
        x.leads(2);
        fits("ROW 3 is there: 1 stays in PLACE 2", x, 2, 3);
        x.see(-1, 0, 0);
        x.see(2, 1, 1);
        x.leads(1);
        fits("ROW 2 is the last one", x, 2, 0);
        x.see(-1, 0, 0);
        x.see(2, 1, 2);
        fits("ROW 2 is the last one", x, 3, 3);
        x = longest(255);
        x.see(192, 1, 2);
        fits("ROW 192: an even number of swaps", x, 0, -5);
        x.see(-1, 0, 0);
        x.see(192, 8, 8);
        fits("ROW 192", x, 34, 0);
    }

    /** 12 LEADS of 16 CHANGES: all PLACES are kept, but for the last one. */
    private static Counted longest(int lastChange) {
        Counted x = new Counted();
        x.bells(8);
        x.leads(12);
        for (int i = 1; i <= 15; i++) {
            x.change(255);
        }
        due.is(3, "the 16th CHANGE", x.change(lastChange), 16);
        return x;
    }

    /** ROW 0 is ROUNDS by any CHANGE; ROW 1 of a METHOD of one is by the sought one. */
    private static void fitsOfTheFirstAndTheLastRow() {
        for (int n = 4; n <= 8; n += 2) {
            for (int place = 1; place <= n; place++) {
                Counted x = read("n" + n + ";mx");
                int all = x.fits(0);
                x.see(0, place, place);
                due.is(21, "ROW 0 has BELL " + place + " there", x.fits(0), all);
                x.see(0, place, place == 1 ? 2 : 1);
                fits("ROW 0 has another BELL", x, 0, -5);
            }
        }
        Counted x = read("n4;mx");
        x.see(1, 1, 1);
        fits("1 stays", x, 3, 3);
        x.see(1, 4, 4);
        fits("1 and 4 stay", x, 2, 9);
        x.see(1, 2, 3);
        fits("1 and 4 stay, 2 and 3 don't", x, 1, 9);
        x.see(1, 2, 2);
        fits("2 and 3 in one PLACE", x, 0, -5);
    }

    /** Each GOOD CHANGE of each n is found by what it does to ROUNDS: the least is that one (0 .. 2 to the n, less 1). */
    private static void fitsOfEachChange() {
        for (int n = 4; n <= 8; n++) {
            Counted good = new Counted();
            good.bells(n);
            for (int places = 0; places < 1 << n; places++) {
                if (good.good(places) == 1) {
                    Counted rung = new Counted();
                    rung.bells(n);
                    rung.change(places);
                    Counted x = read("n" + n + ";m" + "12345678".substring(0, n));
                    for (int place = 1; place <= n; place += 2) {
                        x.see(1, place, rung.at(1, place));
                    }
                    x.see(1, n, rung.at(1, n));
                    fits("CHANGE " + places + " of " + n, x, 1, places);
                }
            }
        }
    }

    /** None: 0 and -5. */
    private static void fitsOfNone() {
        Counted x = read("n6;mx16");
        x.see(1, 1, 1);
        fits("ROW 1 is 214365 by any last CHANGE", x, 0, -5);
        x.see(-1, 0, 0);
        x.see(2, 1, 6);
        fits("6 can't come to PLACE 1", x, 0, -5);
    }

    /** All of SEEN, the first and the fifth of it, too. */
    private static void fitsOfAllOfSeen() {
        for (int wrong = 0; wrong <= 5; wrong++) {
            Counted x = read("n6;mx");
            for (int i = 0; i < 5; i++) {
                x.see(i == 4 ? 0 : 1, i + 1, i == wrong ? 6 : i == 4 ? 5 : new int[] {2, 1, 3, 4}[i]);
            }
            fits(wrong + " of SEEN is wrong", x, wrong < 5 ? 0 : 2, wrong < 5 ? -5 : 12);
        }
    }

    /** Were the last one of THE METHOD that, the others as they are. */
    private static void fitsOfTheLastChangeAlone() {
        Counted x = read("n4;mx14x14;cpp");
        x.see(3, 1, 4);
        fits("ROW 3 is 4231 by any last CHANGE, not so", x, 5, 0);
        x.see(-1, 0, 0);
        x.see(3, 1, 3);
        fits("ROW 3 begins with 4", x, 0, -5);
        x.see(-1, 0, 0);
        x.see(4, 1, 4);
        x.see(5, 2, 4);
        fits("4 in PLACE 1 stays, then swaps", x, 3, 3);
        due.is(21, "THE METHOD is as it was", x.of(0, 3), 9);
        due.text(21, "ROW 4 is as it was", x.row(4, 4), "4321");
    }

    /** A LEAD that is CALLED (and there is that one) doesn't hang on the last CHANGE. */
    private static void fitsByCalls() {
        Counted x = read("n4;mx;b1234;s14;cb");
        x.see(1, 1, 1);
        fits("a BOB: 1234 whatever the last is", x, 5, 0);
        x.call(0, 2);
        x.see(1, 2, 3);
        fits("a SINGLE: 1324 whatever the last is", x, 5, 0);
        x.calls(2, -1);
        fits("no SINGLE there: the last one", x, 1, 9);
        x.call(0, 1);
        fits("a BOB: 2 in PLACE 2", x, 0, -5);
        x.calls(1, -1);
        fits("no BOB there: the last one", x, 1, 9);
    }

    // ---- promise 22

    /** NO: bell (1 .. n), place (1 .. n), part (0, 1); several at once, too. */
    private static void oddsInVain() {
        for (Ready ready : Ready.values()) {
            for (int number : Trials.beyond(1, ready.n)) {
                for (int part = 0; part <= 1; part++) {
                    int p = part;
                    trials.refused(ready, 22, "odds(" + number + ", 1, " + part + ")", NO, x -> x.odds(number, 1, p));
                    trials.refused(ready, 22, "odds(1, " + number + ", " + part + ")", NO, x -> x.odds(1, number, p));
                }
                trials.refused(ready, 22, "odds(" + number + ", twice, 2)", NO, x -> x.odds(number, number, 2));
            }
        }
        for (int part : Trials.beyond(0, 1)) {
            trials.refused(22, "odds(1, 1, " + part + ")", NO, x -> x.odds(1, 1, part));
            trials.refused(22, "odds(4, 4, " + part + ")", NO, x -> x.odds(4, 4, part));
        }
    }

    private static void oddsOnlyAsks() {
        for (int part = 0; part <= 1; part++) {
            int p = part;
            trials.asks(22, "odds(1, 1, " + part + ")", x -> x.odds(1, 1, p));
            trials.asks(22, "odds(4, 1, " + part + ")", x -> x.odds(4, 1, p));
        }
    }

    private static void odds(Counted x, int bell, int place, long above, long below) {
        due.is(22, "odds(" + bell + ", " + place + ", 0)", x.odds(bell, place, 0), above);
        due.is(22, "odds(" + bell + ", " + place + ", 1)", x.odds(bell, place, 1), below);
    }

    /** One of all ROWS 0 .. the last one: 0 of 1, 1 of 1, ROW 0 and the last one count. */
    private static void oddsOfAllRows() {
        for (int n = 4; n <= 8; n++) {
            for (int bell = 1; bell <= n; bell++) {
                for (int place = 1; place <= n; place++) {
                    odds(read("n" + n), bell, place, bell == place ? 1 : 0, 1);
                }
            }
            String all = "12345678".substring(0, n);
            Counted x = read("n" + n + ";m" + all + ";cpppppppppppp");
            odds(x, 1, 1, 1, 1);
            odds(x, n, n, 1, 1);
            odds(x, 1, n, 0, 1);
            odds(x, n, 1, 0, 1);
        }
        odds(read("n4;mx"), 1, 1, 1, 2);
        odds(read("n4;mx"), 2, 1, 1, 2);
        odds(read("n4;mx"), 3, 1, 0, 1);
        odds(read("n4;mx1234"), 1, 1, 1, 3);
        odds(read("n4;mx1234"), 2, 1, 2, 3);
    }

    /** A fraction in lowest terms: of 193 ROWS, a prime; of 4, 6, 12, 16 ROWS. */
    private static void oddsInLowestTerms() {
        Counted x = longest(252);
        due.is(11, "the last ROW", x.told(3), 192);
        odds(x, 1, 1, 97, 193);
        odds(x, 2, 1, 96, 193);
        odds(x, 3, 3, 1, 1);
        odds(read("n4;mx1234x"), 2, 1, 1, 2);
        odds(read("n4;m1234.1234.34"), 1, 1, 3, 4);
        odds(read("n4;m34.1234.1234.1234.1234"), 1, 1, 1, 6);
        odds(read("n4;m34.1234.1234.1234.1234"), 2, 1, 5, 6);
        odds(read("n4;m1234.34.1234.1234.1234"), 1, 1, 1, 3);
        odds(read("n4;m1234.34.1234.1234.1234"), 1, 2, 2, 3);
        odds(read("n4;m1234.1234.1234.1234.1234.1234.1234.1234.34.1234.1234"), 1, 1, 3, 4);
        odds(read("n4;m1234.1234.1234.1234.1234.1234.1234.1234.34.1234.1234"), 1, 2, 1, 4);
    }

    // ---- promise 23

    /** NO: part. */
    private static void meanInVain() {
        for (int part : Trials.beyond(0, 1)) {
            trials.refused(23, "mean(" + part + ")", NO, x -> x.mean(part));
        }
    }

    private static void meanOnlyAsks() {
        trials.asks(23, "mean(0)", x -> x.mean(0));
        trials.asks(23, "mean(1)", x -> x.mean(1));
    }

    private static void mean(Counted x, String name, long above, long below) {
        due.is(23, "mean(0) of " + name, x.mean(0), above);
        due.is(23, "mean(1) of " + name, x.mean(1), below);
    }

    /** MUSIC 0 to 3 together, by how many ROWS there are, with ROW 0: 0, less than 1, whole, more than 1. */
    private static void meanOfAllRows() {
        mean(new Counted(), "ROW 0 alone", 0, 1);
        mean(Ready.BARE.make(), "ROW 0 alone", 0, 1);
        mean(read("n4;mx"), "x: the PATTERN alone", 1, 2);
        mean(read("n4;m1234"), "a ROW four times MUSIC", 2, 1);
        mean(read("n4;m1234.1234"), "8 of 3", 8, 3);
        mean(read("n4;m1234.1234.1234"), "12 of 4", 3, 1);
        mean(read("n6;m3456"), "0, 2 and 3 of 2", 3, 2);
        mean(read("n6;m1234"), "1 and 2 of 2", 1, 1);
        mean(longest(255), "768 of 193", 768, 193);
        Counted x = read("n4;m14x14x");
        x.pattern(1, 2);
        mean(x, "3412 alone", 1, 5);
        x.pattern(1, 3);
        mean(x, "two that begin with 3, and 3412", 3, 5);
        x.pattern(1, 0);
        mean(x, "four, and 3412", 1, 1);
        x = read("n4;mx");
        x.pattern(4, 4);
        mean(x, "0 of 2", 0, 1);
    }
}
