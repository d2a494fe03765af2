/** The boundary cases of promise 9, and of what "Terms" 1 says of THE TEXT, its FAULT and its CLAUSES. */
public final class TextBoundsTests {
    private static final Due due = new Due();
    private static final String ALL_BELLS = "n4;n5;n6;n7;n8;n4;n5;n6;n7";

    public static void main(String[] args) {
        emptyText();
        eachSignAtFirst();
        eachSignBehindAClause();
        eachSignInAClause();
        numberOfClauses();
        clauseOfEachDigit();
        numberOfWords();
        numberOfDigits();
        eachDigitIsAPlace();
        aPlaceTwice();
        pointsBetweenWords();
        numberOfLetters();
        endsTooEarly();
        faultAtEachPlace();
        lengthOfTheText();
        theFirstFaultOfSeveral();
        aFaultChangesNothing();
        theTextIsEmptyThen();
        clausesOfBells();
        clausesOfBellsAsTheCall();
        clausesOfTheMethod();
        clausesOfTheMethodRefused();
        clausesOfCalls();
        clausesOfCallsRefused();
        clausesOfLeads();
        clausesOneBehindTheOther();
        due.end("TextBoundsTests");
    }

    private static String times(String part, int n) {
        return part.repeat(n);
    }

    /** So many words of one digit, with . between. */
    private static String words(int n) {
        return "1" + times(".1", n - 1);
    }

    private static String shown(String text) {
        return text.replace("\0", "\\0").replace("\n", "\\n").replace("\r", "\\r");
    }

    /** Read by a new object: a FAULT there. */
    private static void fault(String text, int place) {
        Counted x = new Counted();
        due.is(9, "read of '" + shown(text) + "'", x.reads(text), -10 - place);
        due.is(9, "count(3) behind it", x.count(3), 0);
        due.is(9, "told(0) behind it", x.told(0), 6);
        due.is(9, "told(1) behind it", x.told(1), 0);
        due.is(9, "told(2) behind it", x.told(2), 1);
    }

    /** Read by a new object: no FAULT, and so many done. */
    private static Counted done(String text, int clauses) {
        Counted x = new Counted();
        due.is(9, "read of '" + shown(text) + "'", x.reads(text), clauses);
        due.is(9, "count(3) behind it", x.count(3), 0);
        return x;
    }

    // ---- the FAULT

    /** No CLAUSE: it ends too early, at 0. */
    private static void emptyText() {
        fault("", 0);
        Counted x = new Counted();
        due.is(9, "read()", x.read(), -10);
        due.is(9, "read() again", x.read(), -10);
    }

    /** A CLAUSE begins with n, m, b, s, c, and with no other byte of 0 .. 127. */
    private static void eachSignAtFirst() {
        for (char sign = 0; sign <= 127; sign++) {
            boolean begins = "nmbsc".indexOf(sign) >= 0;
            fault(String.valueOf(sign), begins ? 1 : 0);
            fault("n6;" + sign, begins ? 4 : 3);
        }
    }

    /** Behind a whole CLAUSE only ; or what makes it longer. */
    private static void eachSignBehindAClause() {
        for (char sign = 0; sign <= 127; sign++) {
            String of = String.valueOf(sign);
            fault("n6" + of, sign == ';' ? 3 : 2);
            fault("bx" + of, sign == ';' ? 3 : 2);
            fault("sx" + of, sign == ';' ? 3 : 2);
            boolean digit = sign >= '1' && sign <= '8';
            if (digit) {
                done("b3" + of, sign == '4' || sign == '6' ? 1 : 0);
            } else {
                fault("b3" + of, sign == ';' ? 3 : 2);
            }
            if ("pbs".indexOf(sign) >= 0) {
                done("cp" + of, 1);
            } else {
                fault("cp" + of, sign == ';' ? 3 : 2);
            }
            if (digit || sign == 'x') {
                due.holds("9: a WORD behind x may be " + of, new Counted().reads("mx" + of) >= 0);
            } else {
                fault("mx" + of, sign == ';' ? 3 : 2);
            }
            if (digit || sign == 'x') {
                due.holds("9: behind a digit may be " + of, new Counted().reads("m1" + of) >= 0);
            } else {
                fault("m1" + of, sign == ';' || sign == '.' ? 3 : 2);
            }
        }
    }

    /** Behind the CLAUSE's letter: n a digit 0 .. 9; m, b, s x or a digit 1 .. 8; c p, b, s. */
    private static void eachSignInAClause() {
        for (char sign = 0; sign <= 127; sign++) {
            boolean number = sign >= '0' && sign <= '9';
            boolean word = sign == 'x' || sign >= '1' && sign <= '8';
            boolean letter = sign == 'p' || sign == 'b' || sign == 's';
            begins("n" + sign, number);
            begins("m" + sign, word);
            begins("b" + sign, word);
            begins("s" + sign, word);
            begins("c" + sign, letter);
        }
    }

    private static void begins(String clause, boolean fits) {
        if (fits) {
            due.holds("9: no FAULT in " + clause, new Counted().reads(clause) >= 0);
        } else {
            fault(clause, 1);
        }
    }

    /** CLAUSES, 1 to 10, with ; between (none behind the tenth). */
    private static void numberOfClauses() {
        for (int clauses = 1; clauses <= 10; clauses++) {
            String text = "n6" + times(";n6", clauses - 1);
            done(text, clauses);
            fault(text + ";", clauses < 10 ? 3 * clauses : 29);
            fault(text + ";;", clauses < 10 ? 3 * clauses : 29);
            fault(text + "n6", 3 * clauses - 1);
        }
        fault("n6" + times(";n6", 10), 29);
        fault("cp" + times(";cp", 9) + ";", 29);
        fault("mx" + times(";mx", 9) + ";", 29);
        fault("b14" + times(";b14", 9) + ";", 39);
    }

    /** n and a digit: each of 0 .. 9 is one; only 4 .. 8 aren't refused; one digit alone. */
    private static void clauseOfEachDigit() {
        for (int n = 0; n <= 9; n++) {
            boolean can = n >= 4 && n <= 8;
            Counted x = done("n" + n, can ? 1 : 0);
            due.is(9, "told(0) behind n" + n, x.told(0), can ? n : 6);
        }
        fault("n44", 2);
        fault("n10", 2);
        fault("n04", 2);
        fault("n-4", 1);
        fault("n", 1);
        fault("n;", 1);
    }

    /** m and WORDS: 1 to 16, neither . nor WORD behind the sixteenth. */
    private static void numberOfWords() {
        for (int words = 1; words <= 16; words++) {
            due.is(9, words + " x", done("m" + times("x", words), 1).told(1), words);
            due.is(9, words + " of a digit", done("n5;m" + words(words), 2).told(1), words);
        }
        fault("m", 1);
        fault("m;", 1);
        fault("m" + times("x", 17), 17);
        fault("m" + times("x", 16) + "1", 17);
        fault("m" + times("x", 16) + ".", 17);
        fault("m" + times("x", 16) + ".1", 17);
        fault("m" + times("x", 16) + ";", 18);
        fault("m" + words(16) + ".", 32);
        fault("m" + words(16) + ".1", 32);
        fault("m" + words(16) + "x", 32);
        fault("m" + words(16) + ";", 33);
        done("m" + words(16) + "2", 0);
        fault("m" + words(16) + "2345678" + "1", 39);
        fault("m" + words(15) + ".", 31);
        due.is(9, "15 of a digit, and x", done("n4;m" + times("12.", 14) + "12x", 2).told(1), 16);
        due.is(9, "15 x, and digits", done("n4;m" + times("x", 15) + "12", 2).told(1), 16);
        fault("m" + times("x", 15) + "12x", 18);
        fault("m" + times("x", 15) + "12.", 18);
    }

    /** WORD: 1 to 8 digits, in m, b and s; of eight that are one PLACE, too. */
    private static void numberOfDigits() {
        for (int digits = 1; digits <= 8; digits++) {
            String word = "12345678".substring(0, digits);
            due.holds("9: digits " + word, new Counted().reads("m" + word) >= 0);
            due.holds("9: digits " + word, new Counted().reads("b" + word) >= 0);
            due.holds("9: digits " + word, new Counted().reads("s" + word) >= 0);
        }
        for (String sort : new String[] {"m", "b", "s"}) {
            fault(sort, 1);
            fault(sort + "123456781", 9);
            fault(sort + "111111111", 9);
            fault(sort + "123456789", 9);
            due.is(9, "eight times one PLACE", new Counted().reads("n5;" + sort + "11111111"), 2);
        }
        fault("m12345678.123456781", 18);
        fault("mx123456781", 10);
        due.is(9, "eight digits, eight digits", done("n8;m12345678.12345678", 2).told(1), 2);
        due.is(9, "eight digits, x, eight digits", done("n8;m12345678x12345678", 2).told(1), 3);
    }

    /** 1 .. 8 each: of PLACE p the bit 2 to the (p - 1); 0 and 9 are none. */
    private static void eachDigitIsAPlace() {
        for (int place = 1; place <= 8; place++) {
            int other = place % 2 == 1 ? place + 1 : place - 1;
            String word = place + "" + other;
            int bits = 1 << (place - 1) | 1 << (other - 1);
            Counted x = done("n8;m" + word + ";b" + word + ";s" + word, 4);
            due.is(9, "m" + word, x.of(0, 0), bits);
            due.is(9, "b" + word, x.of(1, 0), bits);
            due.is(9, "s" + word, x.of(2, 0), bits);
        }
        for (String sort : new String[] {"m", "b", "s"}) {
            fault(sort + "0", 1);
            fault(sort + "9", 1);
            fault(sort + "10", 2);
            fault(sort + "19", 2);
        }
        fault("m1.0", 3);
        fault("m1.9", 3);
        fault("mx0", 2);
        fault("mx9", 2);
    }

    /** One may stand there twice; in any order. */
    private static void aPlaceTwice() {
        Counted x = done("m1166.6161.61;b161;s66661111", 3);
        for (int k = 0; k <= 2; k++) {
            due.is(9, "of(0, " + k + ")", x.of(0, k), 33);
        }
        due.is(9, "of(1, 0)", x.of(1, 0), 33);
        due.is(9, "of(2, 0)", x.of(2, 0), 33);
    }

    /** Between two WORDS of digits a . must stand, ahead of x and behind it none may. */
    private static void pointsBetweenWords() {
        due.is(9, "12.12", done("m12.12", 1).told(1), 2);
        due.is(9, "1212 is one WORD", done("m1212", 1).told(1), 1);
        due.is(9, "x12", done("mx12", 1).told(1), 2);
        due.is(9, "12x", done("m12x", 1).told(1), 2);
        due.is(9, "12x12", done("m12x12", 1).told(1), 3);
        due.is(9, "xx", done("mxx", 1).told(1), 2);
        fault("m.", 1);
        fault("m.12", 1);
        fault("m.x", 1);
        fault("m12.", 4);
        fault("m12.x", 4);
        fault("m12..", 4);
        fault("m12..12", 4);
        fault("m12.;", 4);
        fault("mx.", 2);
        fault("mx.12", 2);
        fault("mx.x", 2);
        fault("m12x.12", 4);
        fault("m12x12.", 7);
        fault("b12.12", 3);
        fault("s12.", 3);
        fault("b.", 1);
        fault("b.1", 1);
        fault("bx.", 2);
        fault("bxx", 2);
        fault("bx1", 2);
        fault("s1x", 2);
    }

    /** c and 1 to 12 letters p, b, s. */
    private static void numberOfLetters() {
        for (int letters = 1; letters <= 12; letters++) {
            for (int call = 0; call <= 2; call++) {
                String letter = "pbs".substring(call, call + 1);
                Counted x = done("c" + times(letter, letters), 1);
                due.is(9, "told(2)", x.told(2), letters);
                due.is(9, "the last letter", x.of(3, letters - 1), call);
                due.is(9, "one LEAD further", x.of(3, letters), letters == 12 ? -1 : 0);
            }
        }
        fault("c", 1);
        fault("c;", 1);
        fault("c" + times("p", 13), 13);
        fault("c" + times("b", 13), 13);
        fault("c" + times("s", 13), 13);
        fault("c" + times("s", 12) + "x", 13);
        fault("c" + times("s", 12) + ";", 14);
    }

    /** The end of THE TEXT, if it ends too early. */
    private static void endsTooEarly() {
        String[] early = {"", "n", "m", "b", "s", "c", "n6;", "mx;", "b1;", "sx;", "cp;", "m1.", "mx1.", "m1.1.",
            "n6;n", "n6;m", "n6;b", "n6;s", "n6;c", "n6;m1.", ALL_BELLS + ";", ALL_BELLS + ";c"};
        for (String text : early) {
            fault(text, text.length());
        }
    }

    /** The place of the first byte with which none begins so: 0 .. 100. */
    private static void faultAtEachPlace() {
        for (int place = 0; place < 100; place++) {
            fault(Ready.FULL_TEXT.substring(0, place) + "?", place);
        }
        for (int place = 0; place <= 100; place++) {
            String text = Ready.FULL_TEXT.substring(0, place);
            int read = new Counted().reads(text);
            boolean tooEarly = place == 0 || ";.nmc".indexOf(text.charAt(place - 1)) >= 0 || text.endsWith(";b");
            due.holds("9: " + text + " reads " + read, tooEarly ? read == -10 - place : read >= 1);
        }
    }

    /** 100 bytes at most: what is beyond is not in it, and a FAULT may be at its last byte or its end. */
    private static void lengthOfTheText() {
        String hundred = Ready.FULL_TEXT;
        due.is(9, "its length", hundred.length(), 100);
        done(hundred, 4);
        done(hundred + "?", 4);
        done(hundred + ";n4", 4);
        fault(hundred.substring(0, 99) + "x", 99);
        fault(hundred.substring(0, 99) + ";", 100);
        fault(hundred.substring(0, 98) + ";c", 100);
        fault(hundred.substring(0, 98) + ";cp", 100);
        fault(hundred.substring(0, 98) + "??", 98);
        fault(times("?", 100), 0);
    }

    /** The first of several faults; one behind refused CLAUSES counts. */
    private static void theFirstFaultOfSeveral() {
        fault("n?;m?;", 1);
        fault("n6;m?;n?", 4);
        fault("n9;m2;b2;s2;c?", 13);
        fault("n0;?", 3);
        fault("?n6", 0);
    }

    /** By a FAULT nothing is done, but THE TEXT is empty. */
    private static void aFaultChangesNothing() {
        String[] faulty = {"n4;", "n8;mx;bx;sx;cbbb;?", "cbs?", "b15.", "mxx.", "sxx"};
        for (Ready ready : Ready.values()) {
            String before = Views.of(ready, x -> x.read());
            due.unchanged(9, ready + ": read() twice", before, Views.of(ready, x -> {
                x.read();
                due.is(9, ready + ": read of nothing", x.read(), -10);
            }));
            for (String text : faulty) {
                String behind = Views.of(ready, x -> {
                    x.read();
                    due.holds(ready + ": a FAULT in " + text, x.reads(text) <= -10);
                });
                due.unchanged(9, ready + ": read of " + text, before, behind);
            }
        }
    }

    /** THE TEXT is empty then, by a FAULT, by CLAUSES done, by CLAUSES refused; nothing is left of it. */
    private static void theTextIsEmptyThen() {
        for (String text : new String[] {"n6", "n9", "n", "n6;n6", "?", Ready.FULL_TEXT}) {
            Counted x = new Counted();
            x.reads(text);
            due.is(9, "count(3) behind " + text, x.count(3), 0);
            due.is(9, "read() behind " + text, x.read(), -10);
            due.is(8, "feed(99) behind " + text, x.feed('c'), 1);
            due.is(9, "read() of c alone behind " + text, x.read(), -11);
            due.is(9, "a longer one behind " + text, x.reads("cb;bx"), 2);
            due.is(9, "a shorter one behind " + text, x.reads("cs"), 1);
            due.is(9, "its LEAD", x.of(3, 0), 2);
            due.is(9, "BOB stays", x.of(1, 0), 0);
        }
    }

    // ---- the CLAUSES

    /** n 4 .. 8 is done, others are refused and change nothing. */
    private static void clausesOfBells() {
        for (int n : new int[] {0, 1, 2, 3, 9}) {
            for (Ready ready : new Ready[] {Ready.NEW, Ready.TRUE, Ready.ODD, Ready.BARE}) {
                String before = Views.of(ready, x -> x.read());
                String behind = Views.of(ready, x -> {
                    x.read();
                    due.is(9, ready + ": n" + n, x.reads("n" + n), 0);
                });
                due.unchanged(9, ready + ": n" + n, before, behind);
            }
        }
    }

    /** The CLAUSE n does as the call does, also if n stays. */
    private static void clausesOfBellsAsTheCall() {
        for (Ready ready : Ready.values()) {
            for (int n = 4; n <= 8; n++) {
                int bells = n;
                String called = Views.of(ready, x -> {
                    x.read();
                    x.bells(bells);
                });
                String read = Views.of(ready, x -> {
                    x.read();
                    due.is(9, ready + ": n" + bells, x.reads("n" + bells), 1);
                });
                due.unchanged(9, ready + ": n" + n, called, read);
            }
        }
    }

    /** THE METHOD becomes these: those that were there are none any more; all else stays. */
    private static void clausesOfTheMethod() {
        Counted x = done("mxxxx;cbb;b14", 3);
        due.is(9, "m", x.reads("m16"), 1);
        due.is(9, "told(1)", x.told(1), 1);
        due.is(9, "of(0, 0)", x.of(0, 0), 33);
        due.is(9, "of(0, 1)", x.of(0, 1), -1);
        due.is(9, "LEADS stay", x.told(2), 2);
        due.is(9, "CALLS stay", x.of(3, 1), 1);
        due.is(9, "BOB stays", x.of(1, 0), 9);
        due.is(9, "SINGLE stays", x.of(2, 0), -5);
        due.is(3, "a CHANGE behind them", x.change(0), 2);
        Counted full = Ready.FULL.make();
        due.is(9, "the full one's own THE TEXT", full.read(), 4);
        due.is(9, "16 behind 16", full.told(1), 16);
        due.is(9, "of(0, 15)", full.of(0, 15), 195);
    }

    /** m is refused, if one of its CHANGES (the first, the last) isn't GOOD, or names a PLACE above n. */
    private static void clausesOfTheMethodRefused() {
        String[] refused = {"m1", "m2xx", "mx2x", "mxx2", "m56x", "mxx56", "m12345", "m1234.1234.123456", "m45",
            "m" + times("x", 15) + "1", "m1" + times("x", 15), "m78", "m8", "m12347"};
        for (String text : refused) {
            Counted x = done("n4;m1234.14;b34;s12;cps", 5);
            due.is(9, text + " of 4", x.reads(text), 0);
            due.is(9, "told(1)", x.told(1), 2);
            due.is(9, "of(0, 0)", x.of(0, 0), 15);
            due.is(9, "of(0, 1)", x.of(0, 1), 9);
            due.is(9, "told(2)", x.told(2), 2);
        }
        for (int n = 4; n <= 8; n++) {
            String all = "12345678".substring(0, n);
            done("n" + n + ";m" + all, 2);
            done("n" + n + ";b" + all, 2);
            done("n" + n + ";s" + all, 2);
            if (n < 8) {
                String above = "12345678".substring(0, n + 1);
                done("n" + n + ";m" + above, 1);
                done("n" + n + ";b" + above, 1);
                done("n" + n + ";s" + above, 1);
            }
            done("n" + n + ";mx;bx;sx", n % 2 == 0 ? 4 : 1);
        }
    }

    /** BOB, SINGLE become so; the other one stays. */
    private static void clausesOfCalls() {
        Counted x = done("b12", 1);
        due.is(9, "BOB", x.of(1, 0), 3);
        due.is(9, "SINGLE", x.of(2, 0), -5);
        due.is(9, "s", x.reads("s34"), 1);
        due.is(9, "BOB", x.of(1, 0), 3);
        due.is(9, "SINGLE", x.of(2, 0), 12);
        due.is(9, "bx", x.reads("bx"), 1);
        due.is(9, "BOB", x.of(1, 0), 0);
        due.is(9, "SINGLE", x.of(2, 0), 12);
        due.is(4, "there was one", x.calls(1, -1), 1);
        due.is(9, "CALLS stay", x.of(3, 0), 0);
        due.is(9, "CHANGES stay", x.told(1), 0);
    }

    /** b, s likewise: not GOOD, or a PLACE above n. */
    private static void clausesOfCallsRefused() {
        for (String word : new String[] {"1", "2", "5", "6", "56", "12345", "78", "123456", "24", "12348"}) {
            Counted x = done("n4;b34;s12", 3);
            due.is(9, "b" + word + " of 4", x.reads("b" + word), 0);
            due.is(9, "s" + word + " of 4", x.reads("s" + word), 0);
            due.is(9, "BOB stays", x.of(1, 0), 12);
            due.is(9, "SINGLE stays", x.of(2, 0), 3);
        }
        Counted x = done("n5;bx;sx", 1);
        due.is(9, "no BOB", x.of(1, 0), -5);
        due.is(9, "no SINGLE", x.of(2, 0), -5);
    }

    /** So many LEADS, CALLED so; those behind stay. */
    private static void clausesOfLeads() {
        Counted x = done("csbpsbpsbpsbp", 1);
        int[] calls = {2, 1, 0, 2, 1, 0, 2, 1, 0, 2, 1, 0};
        for (int letters = 1; letters <= 12; letters++) {
            String text = "c" + "pppppppppppp".substring(0, letters);
            due.is(9, "read of " + text, x.reads(text), 1);
            due.is(9, "told(2)", x.told(2), letters);
            for (int lead = 0; lead <= 11; lead++) {
                due.is(9, "of(3, " + lead + ")", x.of(3, lead), lead < letters ? 0 : calls[lead]);
            }
        }
    }

    /** They are done one behind the other: each by the n ahead of it; those that would be refused aren't. */
    private static void clausesOneBehindTheOther() {
        Counted x = done("b56;n8;b78;n6;b78;m56;n4;m56;m34;cbb", 8);
        due.is(9, "told(0)", x.told(0), 4);
        due.is(9, "told(1)", x.told(1), 1);
        due.is(9, "of(0, 0)", x.of(0, 0), 12);
        due.is(9, "of(1, 0)", x.of(1, 0), -5);
        due.is(9, "told(2)", x.told(2), 2);
        x = done("cbbb;mx;bx;sx;n6", 5);
        due.is(9, "an n that comes last empties", x.told(1), 0);
        due.is(9, "no BOB", x.of(1, 0), -5);
        due.is(9, "one LEAD", x.told(2), 1);
        due.is(9, "PLAIN", x.of(3, 0), 0);
        x = done("mx;m16;m14;b14;b12;s12;sx;cpp;cs;cbp", 10);
        due.is(9, "of(0, 0), the last m", x.of(0, 0), 9);
        due.is(9, "told(1), the last m", x.told(1), 1);
        due.is(9, "of(1, 0), the last b", x.of(1, 0), 3);
        due.is(9, "of(2, 0), the last s", x.of(2, 0), 0);
        due.is(9, "told(2), the last c", x.told(2), 2);
        due.is(9, "of(3, 0), the last c", x.of(3, 0), 1);
        x = done("n3;m2;b2;s2;n9;n0;m1", 0);
        due.is(9, "all refused: told(0)", x.told(0), 6);
        due.is(9, "all refused: told(1)", x.told(1), 0);
    }
}
