/** Promises 16 to 19: music, the fewest calls, paths. */
public final class MusicTests {
    private static final Due due = new Due();
    private static final String MINOR = "n6;mx16x16x16x16x16x12;b14;s1234";

    public static void main(String[] args) {
        music();
        musicOfPatterns();
        musicOfEight();
        least();
        leastOfSeveral();
        leastOfNone();
        still();
        ahead();
        due.end("MusicTests");
    }

    private static void music() {
        Counted x = new Counted();
        for (int what = 0; what < 4; what++) {
            due.is(16, "music(" + what + ") without changes", x.music(what), 0);
        }
        due.is(16, "music(-1)", x.music(-1), -1);
        due.is(16, "music(4)", x.music(4), -1);
        Due.read(x, "n4;mx14x14x14x12;cppp");
        due.is(16, "music(0) of all rows of 4", x.music(0), 1);
        due.is(16, "music(1) of all rows of 4", x.music(1), 1);
        due.is(16, "music(2) of all rows of 4", x.music(2), 24);
        due.is(16, "music(3) of all rows of 4", x.music(3), 6);
        Due.read(x, "n6;m3456.123456.1256.16.123456");
        due.is(16, "music(0): 213456 twice", x.music(0), 2);
        due.is(16, "music(1)", x.music(1), 0);
        due.is(16, "music(3)", x.music(3), 3);
        Due.read(x, "n6;m1234.1234.1234");
        due.is(16, "music(1): 1234 at the front, each", x.music(1), 3);
        due.is(16, "music(0)", x.music(0), 1);
        due.is(16, "music(3)", x.music(3), 1);
    }

    private static void musicOfPatterns() {
        Counted x = new Counted();
        Due.read(x, "n4;mx14x14x14x12;cppp");
        x.pattern(1, 1);
        due.is(16, "music(2), 1 leads", x.music(2), 6);
        x.pattern(4, 4);
        due.is(16, "music(2), 1..4", x.music(2), 2);
        x.pattern(2, 2);
        due.is(16, "music(2), 12.4", x.music(2), 1);
        x.pattern(3, 2);
        due.is(16, "music(2), a bell twice", x.music(2), 0);
        x.pattern(2, 3);
        due.is(16, "music(2), 1324", x.music(2), 1);
        x.pattern(5, 7);
        due.is(16, "music(2), place 5 doesn't matter", x.music(2), 1);
    }

    private static void musicOfEight() {
        Counted x = new Counted();
        Due.read(x, "n8;m345678.125678.123478");
        due.holds("16: row 2", Due.row(x, 2).equals("21435678"));
        due.is(16, "music(0)", x.music(0), 2);
        due.is(16, "music(1)", x.music(1), 0);
        due.is(16, "music(3)", x.music(3), 3);
        Due.read(x, "n8;mx18x18x18x18x18x18x18x12;cppppppp");
        due.is(16, "music(0), a course", x.music(0), 4);
        due.is(16, "music(1), a course", x.music(1), 1);
        due.is(16, "music(2), a course", x.music(2), 112);
        due.is(11, "TRUE", x.told(6), 1);
    }

    private static void least() {
        Counted x = new Counted();
        Due.read(x, MINOR);
        due.is(17, "least(0, 0)", x.least(0, 0), -2);
        due.is(17, "least(6, 2)", x.least(6, 2), -2);
        due.is(17, "least(1, 2)", x.least(1, 2), -1);
        due.is(17, "least(5, -1)", x.least(5, -1), -1);
        due.is(17, "least(1, 0)", x.least(1, 0), -5);
        due.is(17, "least(1, 1)", x.least(1, 1), -5);
        due.is(17, "least(2, 0)", x.least(2, 0), -5);
        due.is(17, "least(2, 1)", x.least(2, 1), -5);
        due.is(17, "least(3, 0)", x.least(3, 0), 13);
        due.is(17, "least(3, 1)", x.least(3, 1), 3);
        due.is(17, "least(5, 0)", x.least(5, 0), 0);
        due.is(17, "least(5, 1)", x.least(5, 1), 0);
        due.is(17, "least(3, 0) again", x.least(3, 0), 13);
        due.is(17, "least(5, 0) again", x.least(5, 0), 0);
        x.leads(9);
        x.call(0, 2);
        due.is(17, "least(5, 0), whatever is called", x.least(5, 0), 0);
        due.is(17, "of(3, 0) stays", x.of(3, 0), 2);
        due.is(17, "told(2) stays", x.told(2), 9);
    }

    private static void leastOfSeveral() {
        Counted x = new Counted();
        Due.read(x, "n4;mx14;b12;s1234");
        due.is(17, "least(4, 0), a hunt", x.least(4, 0), 0);
        due.is(17, "least(2, 0), two bobs", x.least(2, 0), 4);
        due.is(17, "least(2, 1), two bobs", x.least(2, 1), 2);
        Due.read(x, "n6;mx16;b14;s12");
        due.is(17, "least(2, 0), two singles", x.least(2, 0), 8);
        due.is(17, "least(4, 0), 1111", x.least(4, 0), 40);
        Due.read(x, "n6;m34x;b12;s1456");
        due.is(17, "least(4, 0), 0101 ahead of 1010", x.least(4, 0), 10);
        due.is(17, "least(4, 1), 0101 ahead of 1010", x.least(4, 1), 2);
        rings(x, 30, 4);
        due.is(17, "1010 is TRUE, too", x.told(6), 1);
        Due.read(x, "n5;m3.123;b125;s145");
        rings(x, 13, 4);
        due.is(17, "0111 is TRUE", x.told(6), 1);
        due.is(17, "least(4, 0), but 0202 has fewer", x.least(4, 0), 20);
        due.is(17, "least(4, 1), but 0202 has fewer", x.least(4, 1), 2);
        rings(x, 20, 4);
        due.is(17, "0202 is TRUE", x.told(6), 1);
    }

    private static void rings(Counted x, int number, int leads) {
        x.leads(leads);
        for (int lead = leads - 1; lead >= 0; lead--, number /= 3) {
            x.call(lead, number % 3);
        }
    }

    private static void leastOfNone() {
        Counted x = new Counted();
        x.calls(1, 63);
        due.is(17, "least(1, 0) without changes", x.least(1, 0), -5);
        due.is(17, "least(5, 1) without changes", x.least(5, 1), -5);
        Due.read(x, "n6;mx");
        due.is(17, "no calls there: least(2, 0)", x.least(2, 0), 0);
        due.is(17, "no calls there: least(2, 1)", x.least(2, 1), 0);
        due.is(17, "no calls there: least(3, 0)", x.least(3, 0), -5);
        due.is(17, "no calls there: least(3, 1)", x.least(3, 1), -5);
        x.calls(2, 63);
        due.is(17, "a single alone: least(1, 0)", x.least(1, 0), 2);
        due.is(17, "a single alone: least(1, 1)", x.least(1, 1), 1);
        Due.read(x, "n6;m12.12");
        due.is(17, "all lead ends are rounds: least(1, 0)", x.least(1, 0), 0);
        due.is(17, "all lead ends are rounds: least(2, 0)", x.least(2, 0), -5);
    }

    private static void still() {
        Counted x = new Counted();
        due.is(18, "still(1) without changes", x.still(1), 0);
        due.is(18, "still(0)", x.still(0), -1);
        due.is(18, "still(7)", x.still(7), -1);
        Due.read(x, "n4;mx14x14x14x12;cppp");
        due.is(18, "still(1)", x.still(1), 6);
        due.is(18, "still(2)", x.still(2), 6);
        due.is(18, "still(4)", x.still(4), 6);
        due.is(18, "still(5)", x.still(5), -1);
        Due.read(x, "n4;m1234.12");
        due.is(18, "still(1)", x.still(1), 2);
        due.is(18, "still(3)", x.still(3), 1);
    }

    private static void ahead() {
        Counted x = new Counted();
        due.is(19, "ahead(1, 2) of ROW 0", x.ahead(1, 2), 1);
        due.is(19, "ahead(2, 1) of ROW 0", x.ahead(2, 1), 0);
        due.is(19, "ahead(1, 3) of ROW 0", x.ahead(1, 3), 0);
        due.is(19, "ahead(5, 6) of ROW 0", x.ahead(5, 6), 1);
        due.is(19, "ahead(6, 1) of ROW 0", x.ahead(6, 1), 0);
        due.is(19, "ahead(0, 1)", x.ahead(0, 1), -1);
        due.is(19, "ahead(1, 0)", x.ahead(1, 0), -1);
        due.is(19, "ahead(7, 1)", x.ahead(7, 1), -1);
        due.is(19, "ahead(1, 7)", x.ahead(1, 7), -1);
        due.is(19, "ahead(3, 3)", x.ahead(3, 3), -1);
        Due.read(x, "n4;mx14x14x14x12;cppp");
        due.is(19, "ahead(1, 2)", x.ahead(1, 2), 7);
        due.is(19, "ahead(2, 1)", x.ahead(2, 1), 6);
        due.is(19, "ahead(1, 4)", x.ahead(1, 4), 6);
    }
}
