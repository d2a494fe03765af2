/** Promise 9: set-ups read from texts. */
public final class TextTests {
    private static final Due due = new Due();
    private static final String XS = "xxxxxxxxxxxxxxxx";
    private static final String ONES = "1.1.1.1.1.1.1.1.1.1.1.1.1.1.1";

    public static void main(String[] args) {
        faults();
        faultsOfTheNumber();
        faultChangesNothing();
        clausesDone();
        clausesRefused();
        theClauseOfBells();
        theClauseOfCalls();
        fullText();
        textAfterText();
        due.end("TextTests");
    }

    private static void fault(String text, int place) {
        Counted x = new Counted();
        due.is(9, "read of " + text, Due.read(x, text), -10 - place);
        due.is(9, "count(3) behind it", x.count(3), 0);
    }

    private static void reads(String text, int done) {
        due.is(9, "read of " + text, Due.read(new Counted(), text), done);
    }

    private static void faults() {
        fault("", 0);
        fault(";", 0);
        fault("n", 1);
        fault("N6", 0);
        fault("nx", 1);
        fault("n66", 2);
        fault("n6;", 3);
        fault("n6;;", 3);
        fault("n6 ;", 2);
        fault("m", 1);
        fault("m;", 1);
        fault("m.", 1);
        fault("m0", 1);
        fault("m9", 1);
        fault("m1.", 3);
        fault("m1..2", 3);
        fault("m1.x", 3);
        fault("mx.", 2);
        fault("mx.1", 2);
        fault("m1.;", 3);
        fault("m12345678" + "1", 9);
        fault("m10", 2);
        fault("m1,", 2);
        fault("b", 1);
        fault("bxx", 2);
        fault("bx1", 2);
        fault("b1x", 2);
        fault("b1.2", 2);
        fault("b;", 1);
        fault("s", 1);
        fault("sp", 1);
        fault("s123456781", 9);
        fault("c", 1);
        fault("c;", 1);
        fault("cx", 1);
        fault("cpq", 2);
        fault("n6m", 2);
        fault("a", 0);
        fault("n6;a", 3);
        fault("n6;n", 4);
        fault("\0", 0);
        fault("n6\0", 2);
    }

    private static void faultsOfTheNumber() {
        reads("m" + XS, 1);
        fault("m" + XS + "x", 17);
        fault("m" + XS + "1", 17);
        fault("m" + XS + ".", 17);
        fault("m" + ONES + ".1.", 1 + 31);
        fault("m" + ONES + ".1x", 1 + 31);
        fault("m" + ONES + ".1234567812", 1 + 38);
        reads("cpppppppppppp", 1);
        fault("cppppppppppppp", 13);
        reads("n6;n6;n6;n6;n6;n6;n6;n6;n6;n6", 10);
        fault("n6;n6;n6;n6;n6;n6;n6;n6;n6;n6;", 29);
        fault("n6;n6;n6;n6;n6;n6;n6;n6;n6;n6;n6", 29);
        fault("n6;n6;n6;n6;n6;n6;n6;n6;n6;", 27);
    }

    private static void faultChangesNothing() {
        Counted x = new Counted();
        x.change(33);
        x.calls(1, 63);
        String before = Due.all(x);
        due.is(9, "read", Due.read(x, "n8;mx;bx;sx;cbbb;"), -10 - 17);
        due.holds("9: a fault changes nothing", before.equals(Due.all(x)));
    }

    private static void clausesDone() {
        Counted x = new Counted();
        due.is(9, "read of all clauses", Due.read(x, "n8;mx18x18x18x12;b14;s1234;cpbs"), 5);
        due.is(9, "told(0)", x.told(0), 8);
        due.is(9, "told(1)", x.told(1), 8);
        due.is(9, "told(2)", x.told(2), 3);
        due.is(9, "of(0, 0)", x.of(0, 0), 0);
        due.is(9, "of(0, 1)", x.of(0, 1), 129);
        due.is(9, "of(0, 7)", x.of(0, 7), 3);
        due.is(9, "of(1, 0)", x.of(1, 0), 9);
        due.is(9, "of(2, 0)", x.of(2, 0), 15);
        due.is(9, "of(3, 1)", x.of(3, 1), 1);
        due.is(9, "of(3, 2)", x.of(3, 2), 2);
        due.is(9, "count(3)", x.count(3), 0);
        due.is(9, "a shorter method", Due.read(x, "m1188.7788x"), 1);
        due.is(9, "told(1)", x.told(1), 3);
        due.is(9, "of(0, 0), a place twice", x.of(0, 0), 129);
        due.is(9, "of(0, 1)", x.of(0, 1), 192);
        due.is(9, "of(0, 2)", x.of(0, 2), 0);
        due.is(9, "told(2) stays", x.told(2), 3);
        due.is(9, "of(1, 0) stays", x.of(1, 0), 9);
        due.is(9, "eight digits", Due.read(x, "b87654321;sx"), 2);
        due.is(9, "of(1, 0)", x.of(1, 0), 255);
        due.is(9, "of(2, 0)", x.of(2, 0), 0);
        due.is(9, "sixteen words", Due.read(x, "m" + XS), 1);
        due.is(9, "told(1)", x.told(1), 16);
    }

    private static void clausesRefused() {
        Counted x = new Counted();
        x.change(33);
        x.calls(1, 12);
        x.calls(2, 15);
        due.is(9, "bells that aren't", Due.read(x, "n0;n3;n9"), 0);
        due.is(9, "told(0)", x.told(0), 6);
        due.is(9, "told(1)", x.told(1), 1);
        due.is(9, "not good", Due.read(x, "m1;b1;s2"), 0);
        due.is(9, "above n", Due.read(x, "m12345678;b7;s78"), 0);
        due.is(9, "the last is not good", Due.read(x, "mx1;cp"), 1);
        due.is(9, "of(0, 0)", x.of(0, 0), 33);
        due.is(9, "told(1)", x.told(1), 1);
        due.is(9, "of(1, 0)", x.of(1, 0), 12);
        due.is(9, "of(2, 0)", x.of(2, 0), 15);
        due.is(9, "by the n ahead of it", Due.read(x, "b78;n8;b78;m78"), 3);
        due.is(9, "of(1, 0)", x.of(1, 0), 192);
        due.is(9, "of(0, 0)", x.of(0, 0), 192);
    }

    private static void theClauseOfBells() {
        Counted x = new Counted();
        x.change(0);
        x.calls(1, 0);
        x.call(3, 1);
        x.leads(4);
        x.pattern(1, 1);
        x.see(0, 1, 1);
        x.event(3, 2);
        x.book(0, 1);
        due.is(9, "read of n6", Due.read(x, "n6"), 1);
        due.is(9, "told(1)", x.told(1), 0);
        due.is(9, "told(2)", x.told(2), 1);
        due.is(9, "of(1, 0)", x.of(1, 0), -5);
        due.is(9, "of(3, 3)", x.of(3, 3), 0);
        due.is(9, "pattern(1, 0)", x.pattern(1, 0), 0);
        due.is(9, "counts", x.count(0) + x.count(1) + x.count(2), 0);
        due.is(9, "read of n4 and n8", Due.read(x, "n4;n8"), 2);
        due.is(9, "told(0)", x.told(0), 8);
    }

    private static void theClauseOfCalls() {
        Counted x = new Counted();
        due.is(9, "read", Due.read(x, "csbpsbpsbpsbs"), 1);
        due.is(9, "told(2)", x.told(2), 12);
        due.is(9, "of(3, 11)", x.of(3, 11), 2);
        due.is(9, "read", Due.read(x, "cp"), 1);
        due.is(9, "told(2)", x.told(2), 1);
        due.is(9, "of(3, 0)", x.of(3, 0), 0);
        due.is(9, "of(3, 1) stays", x.of(3, 1), 1);
        due.is(9, "of(3, 11) stays", x.of(3, 11), 2);
    }

    private static void fullText() {
        String words = "m12.12.12.12.12.12.12.12.12.12.12.12.12.12.12.12";
        String text = words + ";" + words + ";n";
        due.is(9, "its length", text.length(), 99);
        fault(text, 99);
        reads(text + "6", 3);
        fault(text + "x", 99);
        reads(words + ";" + words + ";b1", 2);
        String early = words + ";b121;" + words.substring(0, 46);
        due.is(9, "its length", early.length(), 100);
        fault(early, 100);
    }

    /** Nothing of a text is left for the next one, with a fault or without. */
    private static void textAfterText() {
        Counted x = new Counted();
        for (int i = 0; i < 12; i++) {
            due.is(9, "read of two clauses", Due.read(x, "csbpsbpsbpsbp;bx"), 2);
            due.is(9, "of(3, 10)", x.of(3, 10), 1);
            due.is(9, "of(1, 0)", x.of(1, 0), 0);
            due.is(9, "read of a fault", Due.read(x, "cpppppppp;b"), -21);
            due.is(9, "read of one clause", Due.read(x, "b1256"), 1);
            due.is(9, "of(1, 0)", x.of(1, 0), 51);
        }
    }
}
