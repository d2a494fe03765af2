/** The boundary cases of promises 16 to 19, and of what "Terms" 2 says of MUSIC, LEAST, STILL, AHEAD. */
public final class MusicBoundsTests {
    private static final Due due = new Due();
    private static final Trials trials = new Trials(due);
    /** ROWS 1 to 24 are all that 4 BELLS can ring. */
    private static final String ALL_OF_FOUR = "n4;mx14x14x14x12;cppp";

    public static void main(String[] args) {
        musicInVain();
        musicOnlyAsks();
        musicWithoutRowZero();
        musicOfTheEnd();
        musicOfTheBeginning();
        musicOfNoPattern();
        musicOfPatternsBounds();
        musicOfPlacesAboveN();
        musicOfBellsAboveN();
        musicOfTheLastTwo();
        leastRefusedAsBad();
        leastOfNoNumber();
        leastOfSeveralRefusals();
        leastOnlyAsks();
        leastOfEachNumberOfLeads();
        leastWithoutChanges();
        leastOfNone();
        leastCountsTheFewestFirst();
        leastNumberOfSeveral();
        leastOfCallsThatAreNot();
        leastWhateverIsCalled();
        stillInVain();
        stillOfRows();
        stillOnlyAsks();
        aheadInVain();
        aheadOfRows();
        aheadOnlyAsks();
        due.end("MusicBoundsTests");
    }

    private static Counted read(String text) {
        Counted x = new Counted();
        due.holds("9: no FAULT in " + text, x.reads(text) >= 0);
        return x;
    }

    private static void music(String text, int... music) {
        Counted x = read(text);
        for (int what = 0; what <= 3; what++) {
            due.is(16, "music(" + what + ") of " + text, x.music(what), music[what]);
        }
    }

    // ---- promise 16

    /** NONE: what (0 .. 3). */
    private static void musicInVain() {
        for (int what : Trials.beyond(0, 3)) {
            trials.refused(16, "music(" + what + ")", -1, x -> x.music(what));
        }
    }

    private static void musicOnlyAsks() {
        for (int what = 0; what <= 3; what++) {
            int asked = what;
            trials.asks(16, "music(" + what + ")", x -> x.music(asked));
        }
    }

    /** Of ROWS 1 .. the last one: not of ROW 0, but of the last one. */
    private static void musicWithoutRowZero() {
        for (int n = 4; n <= 8; n++) {
            String all = "12345678".substring(0, n);
            music("n" + n, 0, 0, 0, 0);
            music("n" + n + ";cpppppppppppp", 0, 0, 0, 0);
            music("n" + n + ";m" + all, 1, 1, 1, 1);
            music("n" + n + ";m" + all + ";cpppppppppppp", 12, 12, 12, 12);
        }
        music("n4;mx", 0, 0, 1, 0);
        music("n4;mxx", 1, 1, 2, 1);
    }

    /** 0: ROWS that end in n - 3, n - 2, n - 1, n: all of them, in this order, at the end. */
    private static void musicOfTheEnd() {
        music("n5;m345", 0, 0, 1, 1);
        music("n5;m125", 0, 0, 1, 0);
        music("n5;m123", 0, 0, 1, 0);
        music("n6;m3456", 1, 0, 1, 1);
        music("n6;m1456", 0, 0, 1, 1);
        music("n6;m1236", 0, 0, 1, 0);
        music("n6;m1234", 0, 1, 1, 0);
        music("n7;m34567", 1, 0, 1, 1);
        music("n7;m14567", 1, 0, 1, 1);
        music("n7;m12567", 0, 0, 1, 1);
        music("n8;m345678", 1, 0, 1, 1);
        music("n8;m5678", 1, 0, 1, 1);
        music("n8;m145678", 1, 0, 1, 1);
        music("n8;m123478", 0, 1, 1, 1);
        music(ALL_OF_FOUR, 1, 1, 24, 6);
    }

    /** 1: ROWS that begin with 1, 2, 3, 4. */
    private static void musicOfTheBeginning() {
        music("n5;m12345", 1, 1, 1, 1);
        music("n5;m123", 0, 0, 1, 0);
        music("n6;m1234", 0, 1, 1, 0);
        music("n6;m1256", 0, 0, 1, 1);
        music("n7;m12347", 0, 1, 1, 0);
        music("n7;m123", 0, 0, 1, 0);
        music("n8;m1234", 0, 1, 1, 0);
        music("n8;m12345678", 1, 1, 1, 1);
        music("n8;m123478", 0, 1, 1, 1);
        music("n8;m145678", 1, 0, 1, 1);
        music("n8;m123678", 0, 0, 1, 1);
    }

    /** 2: all any: each ROW, at first and again when each PLACE is any. */
    private static void musicOfNoPattern() {
        Counted x = read(ALL_OF_FOUR);
        due.is(16, "all any", x.music(2), 24);
        for (int place = 1; place <= 8; place++) {
            x.pattern(place, 4);
        }
        due.is(16, "a BELL in each PLACE", x.music(2), 0);
        for (int place = 1; place <= 8; place++) {
            x.pattern(place, 0);
        }
        due.is(16, "all any again", x.music(2), 24);
    }

    /** 2: a BELL 1 .. n in the PLACES 1 .. n, one by one and all together. */
    private static void musicOfPatternsBounds() {
        for (int place = 1; place <= 4; place++) {
            for (int bell = 1; bell <= 4; bell++) {
                Counted x = read(ALL_OF_FOUR);
                x.pattern(place, bell);
                due.is(16, "BELL " + bell + " in PLACE " + place, x.music(2), 6);
            }
        }
        Counted x = read("n8;m1278;cpp");
        for (int place = 1; place <= 8; place++) {
            x.pattern(place, place);
        }
        due.is(16, "ROUNDS, the last ROW alone", x.music(2), 1);
        x.pattern(8, 7);
        due.is(16, "another one in PLACE 8", x.music(2), 0);
        x.pattern(8, 0);
        x.pattern(1, 2);
        due.is(16, "another one in PLACE 1", x.music(2), 0);
        x.pattern(1, 1);
        x.pattern(3, 4);
        x.pattern(4, 3);
        x.pattern(5, 6);
        x.pattern(6, 5);
        due.is(16, "12436578", x.music(2), 1);
        due.is(11, "the last ROW", x.told(3), 2);
    }

    /** 2: those above n don't matter. */
    private static void musicOfPlacesAboveN() {
        for (int n = 4; n <= 7; n++) {
            for (int place = n + 1; place <= 8; place++) {
                for (int bell = 1; bell <= 8; bell++) {
                    Counted x = read("n" + n + ";m" + "12345678".substring(0, n));
                    x.pattern(place, bell);
                    due.is(16, "BELL " + bell + " in PLACE " + place + " of " + n, x.music(2), 1);
                }
            }
        }
        for (int n = 4; n <= 8; n++) {
            Counted x = read("n" + n + ";m" + "12345678".substring(0, n));
            x.pattern(n, n);
            due.is(16, "BELL n in PLACE n of " + n, x.music(2), 1);
            x.pattern(n, 1);
            due.is(16, "BELL 1 in PLACE n of " + n, x.music(2), 0);
        }
    }

    /** 2: a BELL that there isn't is in no PLACE up to n. */
    private static void musicOfBellsAboveN() {
        for (int n = 4; n <= 7; n++) {
            for (int bell = n + 1; bell <= 8; bell++) {
                Counted x = read("n" + n + ";m" + "12345678".substring(0, n));
                x.pattern(n, bell);
                due.is(16, "BELL " + bell + " in PLACE n of " + n, x.music(2), 0);
            }
        }
    }

    /** 3: n right behind n - 1: at the beginning, at the end; not ahead of it, not around the end. */
    private static void musicOfTheLastTwo() {
        music("n4;m14", 0, 0, 1, 0);
        music("n4;m14x", 0, 0, 2, 0);
        Counted x = read("n4;m14x14x");
        due.text(16, "ROW 2", x.row(2, 4), "3142");
        due.text(16, "ROW 3", x.row(3, 4), "3412");
        due.text(16, "ROW 4", x.row(4, 4), "4321");
        due.is(16, "34 in the PLACES 1 and 2", x.music(3), 1);
        x = read("n4;mx14x12.14");
        due.text(16, "ROW 3", x.row(3, 4), "4231");
        due.text(16, "ROW 5", x.row(5, 4), "4123");
        due.is(16, "4 in PLACE 1, 3 in PLACE 4", x.music(3), 0);
        x = read("n4;mx");
        due.text(16, "ROW 1", x.row(1, 4), "2143");
        due.is(16, "4 right ahead of 3", x.music(3), 0);
        music("n5;m345", 0, 0, 1, 1);
        music("n8;m345678", 1, 0, 1, 1);
        music("n8;m123456", 0, 1, 1, 0);
    }

    // ---- promise 17

    /** BAD: leads (1 .. 5). */
    private static void leastRefusedAsBad() {
        for (int leads : Trials.beyond(1, 5)) {
            trials.refused(17, "least(" + leads + ", 0)", -2, x -> x.least(leads, 0));
            trials.refused(17, "least(" + leads + ", 1)", -2, x -> x.least(leads, 1));
        }
    }

    /** NONE: what (0, 1). */
    private static void leastOfNoNumber() {
        for (int what : Trials.beyond(0, 1)) {
            trials.refused(17, "least(1, " + what + ")", -1, x -> x.least(1, what));
            trials.refused(17, "least(5, " + what + ")", -1, x -> x.least(5, what));
        }
    }

    /** BAD is named ahead of NONE. */
    private static void leastOfSeveralRefusals() {
        for (int leads : new int[] {0, 6, Integer.MIN_VALUE, Integer.MAX_VALUE}) {
            for (int what : new int[] {-1, 2, Integer.MIN_VALUE, Integer.MAX_VALUE}) {
                trials.refused(17, "least(" + leads + ", " + what + ")", -2, x -> x.least(leads, what));
            }
        }
    }

    private static void leastOnlyAsks() {
        for (int leads = 1; leads <= 5; leads++) {
            for (int what = 0; what <= 1; what++) {
                int asked = leads;
                int part = what;
                trials.asks(17, "least(" + leads + ", " + what + ")", x -> x.least(asked, part));
            }
        }
    }

    private static void least(String text, int leads, int number, int notPlain) {
        Counted x = read(text);
        due.is(17, "least(" + leads + ", 0) of " + text, x.least(leads, 0), number);
        due.is(17, "least(" + leads + ", 1) of " + text, x.least(leads, 1), notPlain);
    }

    /**
     * 1 .. 5 LEADS, by PLAIN ones, by BOBS, by SINGLES alone: 0 is the least number of all, all BOBS are
     * half of the greatest one, all SINGLES are the greatest: 2, 8, 26, 80, 242.
     */
    private static void leastOfEachNumberOfLeads() {
        int[] allBobs = {0, 1, 4, 13, 40, 121};
        int[] allSingles = {0, 2, 8, 26, 80, 242};
        /* By these two CHANGES so many LEADS come round; by the first one twice each LEAD does. */
        String[][] changes = {{}, {"5", "5"}, {"125", "345"}, {"345", "145"}, {}, {"5", "1"}};
        for (int leads : new int[] {1, 2, 3, 5}) {
            String first = changes[leads][0];
            String last = changes[leads][1];
            String other = leads == 1 ? "1" : first;
            least("n5;m" + first + "." + last, leads, 0, 0);
            least("n5;m" + first + "." + other + ";b" + last, leads, allBobs[leads], leads);
            least("n5;m" + first + "." + other + ";s" + last, leads, allSingles[leads], leads);
        }
        least("n4;mx14", 4, 0, 0);
        least("n4;mxx;b14", 4, allBobs[4], 4);
        least("n4;mxx;s14", 4, allSingles[4], 4);
    }

    /** Without CHANGES the last ROW is 0: none is TRUE. */
    private static void leastWithoutChanges() {
        for (Ready ready : new Ready[] {Ready.NEW, Ready.BARE}) {
            for (int leads = 1; leads <= 5; leads++) {
                Counted x = ready.make();
                due.is(17, ready + ": least(" + leads + ", 0)", x.least(leads, 0), -5);
                due.is(17, ready + ": least(" + leads + ", 1)", x.least(leads, 1), -5);
            }
        }
    }

    /** -5: none, as it doesn't come round, as it does too early, as it is FALSE. */
    private static void leastOfNone() {
        for (int leads = 1; leads <= 5; leads++) {
            least("n8;mx18x18x18x18x18x18x18x12", leads, -5, -5);
            if (leads > 1) {
                least("n4;m1234", leads, -5, -5);
                least("n4;mxx;b1234", leads, -5, -5);
                least("n4;mx14.14x", leads, -5, -5);
            }
        }
        least("n4;m1234", 1, 0, 0);
        least("n4;mx14.14x", 1, -5, -5);
        least("n4;mx14.14x;b12", 1, -5, -5);
    }

    /** With fewest that aren't PLAIN, also where another one's number is less. */
    private static void leastCountsTheFewestFirst() {
        least("n5;m3.123;b125;s145", 4, 20, 2);
        isTrue("n5;m3.123;b125;s145", "pbbb");
        isTrue("n5;m3.123;b125;s145", "psps");
    }

    private static void isTrue(String method, String calls) {
        due.is(11, "TRUE: " + method + " by " + calls, read(method + ";c" + calls).told(6), 1);
    }

    /** Of several the least number: the first LEAD counts most, a BOB is less than a SINGLE. */
    private static void leastNumberOfSeveral() {
        least("n6;m34x;b12;s1456", 4, 10, 2);
        isTrue("n6;m34x;b12;s1456", "bpbp");
        isTrue("n6;m34x;b12;s1456", "pbpb");
        least("n5;m5.5;b1;s1", 5, 121, 5);
        isTrue("n5;m5.5;b1;s1", "sssss");
        isTrue("n5;m5.5;b1;s1", "bbbbs");
        least("n4;mx;b12;s12", 2, 0, 0);
        isTrue("n4;mx;b12;s12", "bb");
        isTrue("n4;mx;b12;s12", "ss");
        least("n4;m14x;bx;sx", 4, 0, 0);
        isTrue("n4;m14x;bx;sx", "pppb");
        isTrue("n4;m14x;bx;sx", "sppp");
    }

    /** A BOB, a SINGLE counts, also where there is none: so it is never among the fewest. */
    private static void leastOfCallsThatAreNot() {
        for (String calls : new String[] {"", ";b5", ";s5"}) {
            Counted x = read("n5;m5.1" + calls);
            due.is(17, "least(5, 0), calls" + calls, x.least(5, 0), 0);
            due.is(17, "least(5, 1), calls" + calls, x.least(5, 1), 0);
        }
        isTrue("n5;m5.1", "bsbsb");
        least("n5;m5.5;s1", 5, 242, 5);
        least("n5;m5.5;b1", 5, 121, 5);
        least("n4;m14x;s12", 4, 0, 0);
    }

    /** By so many LEADS, whatever LEADS and CALLS there are; by the BOB and the SINGLE that there are. */
    private static void leastWhateverIsCalled() {
        for (String calls : new String[] {"p", "bbbbb", "sssssssssss", "bspbs"}) {
            Counted x = read("n6;mx16x16x16x16x16x12;b14;s1234;c" + calls);
            due.is(17, "least(3, 0)", x.least(3, 0), 13);
            due.is(17, "least(3, 1)", x.least(3, 1), 3);
            due.is(17, "least(5, 0)", x.least(5, 0), 0);
            x.calls(1, -1);
            due.is(17, "least(3, 0) without the BOB", x.least(3, 0), -5);
            x.calls(2, 9);
            due.is(17, "least(3, 0), it is the SINGLE now", x.least(3, 0), 26);
            due.is(17, "least(3, 1), it is the SINGLE now", x.least(3, 1), 3);
        }
    }

    // ---- promises 18 and 19

    /** NONE: bell (1 .. n). */
    private static void stillInVain() {
        for (Ready ready : Ready.values()) {
            for (int bell : Trials.beyond(1, ready.n)) {
                trials.refused(ready, 18, "still(" + bell + ")", -1, x -> x.still(bell));
            }
        }
    }

    /** ROWS 1 .. the last one, each against the ROW ahead: the first and the last one, too. */
    private static void stillOfRows() {
        for (int n = 4; n <= 8; n++) {
            for (int bell = 1; bell <= n; bell++) {
                String all = "12345678".substring(0, n);
                due.is(18, "still(" + bell + ") without CHANGES", read("n" + n).still(bell), 0);
                due.is(18, "still(" + bell + "), all kept", read("n" + n + ";m" + all).still(bell), 1);
                due.is(18, "12 times", read("n" + n + ";m" + all + ";cpppppppppppp").still(bell), 12);
            }
        }
        int[] first = {1, 1, 0, 0};
        int[] last = {0, 0, 1, 1};
        for (int bell = 1; bell <= 4; bell++) {
            due.is(18, "still(" + bell + ") of x", read("n4;mx").still(bell), 0);
            due.is(18, "still(" + bell + ") of 12x", read("n4;m12x").still(bell), first[bell - 1]);
            due.is(18, "still(" + bell + ") of x12", read("n4;mx12").still(bell), first[bell - 1]);
            due.is(18, "still(" + bell + ") of x34", read("n4;mx34").still(bell), last[bell - 1]);
        }
    }

    private static void stillOnlyAsks() {
        trials.asks(18, "still(1)", x -> x.still(1));
        trials.asks(18, "still(4)", x -> x.still(4));
        trials.asks(18, "still(8)", x -> x.still(8));
    }

    /** NONE: two BELLS (1 .. n), one twice. */
    private static void aheadInVain() {
        for (Ready ready : Ready.values()) {
            for (int bell : Trials.beyond(1, ready.n)) {
                trials.refused(ready, 19, "ahead(1, " + bell + ")", -1, x -> x.ahead(1, bell));
                trials.refused(ready, 19, "ahead(" + bell + ", 1)", -1, x -> x.ahead(bell, 1));
                trials.refused(ready, 19, "ahead(" + bell + ", twice)", -1, x -> x.ahead(bell, bell));
            }
            for (int bell = 1; bell <= ready.n; bell++) {
                int twice = bell;
                trials.refused(ready, 19, "ahead(" + bell + ", " + bell + ")", -1, x -> x.ahead(twice, twice));
            }
        }
    }

    /** ROWS 0 .. the last one; right ahead: not around the end, not behind. */
    private static void aheadOfRows() {
        for (int n = 4; n <= 8; n++) {
            for (int one = 1; one <= n; one++) {
                for (int other = 1; other <= n; other++) {
                    if (one != other) {
                        String pair = "ahead(" + one + ", " + other + ")";
                        due.is(19, pair + " of ROW 0", read("n" + n).ahead(one, other), other == one + 1 ? 1 : 0);
                    }
                }
            }
            String all = "12345678".substring(0, n);
            Counted x = read("n" + n + ";m" + all + ";cpppppppppppp");
            due.is(19, "ahead(1, 2) of 13 ROWS", x.ahead(1, 2), 13);
            due.is(19, "ahead(n - 1, n) of 13 ROWS", x.ahead(n - 1, n), 13);
            due.is(19, "ahead(2, 1) of 13 ROWS", x.ahead(2, 1), 0);
            due.is(19, "ahead(n, 1) of 13 ROWS", x.ahead(n, 1), 0);
        }
        Counted x = read("n4;mx");
        due.is(19, "ahead(1, 2), ROW 0 alone", x.ahead(1, 2), 1);
        due.is(19, "ahead(2, 1), the last ROW alone", x.ahead(2, 1), 1);
        due.is(19, "ahead(1, 4), the last ROW alone", x.ahead(1, 4), 1);
        due.is(19, "ahead(4, 3), the last ROW alone", x.ahead(4, 3), 1);
        due.is(19, "ahead(3, 2), none", x.ahead(3, 2), 0);
    }

    private static void aheadOnlyAsks() {
        trials.asks(19, "ahead(1, 2)", x -> x.ahead(1, 2));
        trials.asks(19, "ahead(4, 3)", x -> x.ahead(4, 3));
        trials.asks(19, "ahead(8, 7)", x -> x.ahead(8, 7));
    }
}
