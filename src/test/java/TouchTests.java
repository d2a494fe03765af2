/** Promises 10 to 15: what is told of a touch. */
public final class TouchTests {
    private static final Due due = new Due();
    private static final String MINIMUS = "n4;mx14x14x14x12";
    private static final String MINOR = "n6;mx16x16x16x16x16x12;b14;s1234";

    public static void main(String[] args) {
        of();
        told();
        roundAndFalse();
        falseAtTheEnd();
        longest();
        courses();
        rowsAsked();
        same();
        good();
        due.end("TouchTests");
    }

    private static void of() {
        Counted x = new Counted();
        Due.read(x, MINOR + ";cpbs");
        due.is(10, "of(0, 0)", x.of(0, 0), 0);
        due.is(10, "of(0, 11)", x.of(0, 11), 3);
        due.is(10, "of(0, 12)", x.of(0, 12), -1);
        due.is(10, "of(0, -1)", x.of(0, -1), -1);
        due.is(10, "of(1, -9)", x.of(1, -9), 9);
        due.is(10, "of(2, 99)", x.of(2, 99), 15);
        due.is(10, "of(3, 0)", x.of(3, 0), 0);
        due.is(10, "of(3, 1)", x.of(3, 1), 1);
        due.is(10, "of(3, 2)", x.of(3, 2), 2);
        due.is(10, "of(3, 11)", x.of(3, 11), 0);
        due.is(10, "of(3, 12)", x.of(3, 12), -1);
        due.is(10, "of(3, -1)", x.of(3, -1), -1);
        due.is(10, "of(-1, 0)", x.of(-1, 0), -1);
        due.is(10, "of(4, 0)", x.of(4, 0), -1);
        x.calls(1, -1);
        x.calls(2, -1);
        due.is(10, "of(1, 0)", x.of(1, 0), -5);
        due.is(10, "of(2, 0)", x.of(2, 0), -5);
    }

    private static void tells(Counted x, int... told) {
        for (int what = 0; what < told.length; what++) {
            due.is(11, "told(" + what + ")", x.told(what), told[what]);
        }
    }

    private static void told() {
        Counted x = new Counted();
        due.is(11, "told(-1)", x.told(-1), -1);
        due.is(11, "told(8)", x.told(8), -1);
        x.leads(3);
        tells(x, 6, 0, 3, 0, -5, -5, 0, 0);
        Due.read(x, MINIMUS + ";cppp");
        tells(x, 4, 8, 3, 24, 24, -5, 1, 3);
        Due.read(x, MINOR + ";cppppp");
        tells(x, 6, 12, 5, 60, 60, -5, 1, 5);
        Due.read(x, "n5;m5.1.5.1.5.1.5.1.5.125;cpppp");
        tells(x, 5, 10, 4, 40, 40, -5, 1, 4);
        Due.read(x, MINOR + ";cbbb");
        tells(x, 6, 12, 3, 36, 36, -5, 1, 5);
        x.call(2, 0);
        tells(x, 6, 12, 3, 36, -5, -5, 0, 5);
    }

    private static void roundAndFalse() {
        Counted x = new Counted();
        Due.read(x, MINIMUS + ";cpppp");
        tells(x, 4, 8, 4, 32, 24, 24, 0, 3);
        x.leads(6);
        tells(x, 4, 8, 6, 48, 24, 24, 0, 3);
        Due.read(x, "n4;m12.12.14.14.12.12");
        tells(x, 4, 6, 1, 6, 2, 2, 0, 1);
        Due.read(x, "n4;mx12x14.14");
        due.is(11, "FALSE, not as ROW 0", x.told(5), 5);
        due.is(11, "ROUND", x.told(4), -5);
        Due.read(x, "n4;m1234");
        tells(x, 4, 1, 1, 1, 1, -5, 1, 1);
        x.leads(2);
        tells(x, 4, 1, 2, 2, 1, 1, 0, 1);
    }

    private static void falseAtTheEnd() {
        Counted x = new Counted();
        Due.read(x, "n4;mx14.14");
        tells(x, 4, 3, 1, 3, -5, 3, 0, 2);
        due.is(14, "same(3)", x.same(3), 1);
        Due.read(x, "n4;mx14.14x");
        tells(x, 4, 4, 1, 4, 4, 3, 0, 1);
    }

    private static void longest() {
        Counted x = new Counted();
        Due.read(x, "n8;mx18x18x18x18x18x18x18x12;b14;cbpppppbppppp");
        tells(x, 8, 16, 12, 192, -5, -5, 0, 7);
        due.is(14, "same(192)", x.same(192), 192);
        due.is(14, "same(193)", x.same(193), -1);
        x.call(6, 0);
        tells(x, 8, 16, 12, 192, -5, 128, 0, 7);
        due.is(14, "same(128), seven plain leads behind a bob", x.same(128), 16);
        due.is(14, "same(192)", x.same(192), 80);
        Due.read(x, "n4;m14x;cpppppppppppp");
        tells(x, 4, 2, 12, 24, 8, 8, 0, 4);
    }

    private static void courses() {
        Counted x = new Counted();
        Due.read(x, "n8;mx18x18x18x18x18x18x18x12");
        tells(x, 8, 16, 1, 16, -5, -5, 0, 7);
        Due.read(x, "n8;mx18");
        due.is(11, "COURSE of a hunt", x.told(7), 8);
        Due.read(x, "n8;m12345678");
        due.is(11, "COURSE of nothing swapped", x.told(7), 1);
        Due.read(x, "n8;m345678.145678.123678.123478.123458.123456");
        due.is(11, "COURSE of 3 and 5", x.told(7), 15);
        x.calls(1, 255);
        x.call(0, 1);
        due.is(11, "COURSE, whatever is called", x.told(7), 15);
        x.leads(12);
        due.is(11, "COURSE, whatever the LEADS", x.told(7), 15);
    }

    private static void rowsAsked() {
        Counted x = new Counted();
        Due.read(x, MINOR);
        due.holds("12: row 0", Due.row(x, 0).equals("123456"));
        due.holds("12: row 1", Due.row(x, 1).equals("214365"));
        due.holds("12: row 2", Due.row(x, 2).equals("241635"));
        due.holds("12: row 11", Due.row(x, 11).equals("132546"));
        due.holds("12: row 12", Due.row(x, 12).equals("135264"));
        x.call(0, 1);
        due.holds("12: row 12 by a bob", Due.row(x, 12).equals("123564"));
        x.call(0, 2);
        due.holds("12: row 12 by a single", Due.row(x, 12).equals("132564"));
        due.is(12, "at(12, 6)", x.at(12, 6), 4);
        due.is(12, "at(13, 1)", x.at(13, 1), -1);
        due.is(12, "at(-1, 1)", x.at(-1, 1), -1);
        due.is(12, "at(0, 0)", x.at(0, 0), -1);
        due.is(12, "at(0, 7)", x.at(0, 7), -1);
        due.is(12, "at(MAX, MAX)", x.at(Integer.MAX_VALUE, Integer.MAX_VALUE), -1);
        due.is(13, "where(2, 1)", x.where(2, 1), 3);
        due.is(13, "where(2, 6)", x.where(2, 6), 4);
        due.is(13, "where(12, 1)", x.where(12, 1), 1);
        due.is(13, "where(13, 1)", x.where(13, 1), -1);
        due.is(13, "where(-1, 1)", x.where(-1, 1), -1);
        due.is(13, "where(0, 0)", x.where(0, 0), -1);
        due.is(13, "where(0, 7)", x.where(0, 7), -1);
        Due.read(x, "n8;mx");
        due.is(13, "where(1, 8)", x.where(1, 8), 7);
        due.is(12, "at(1, 8)", x.at(1, 8), 7);
        due.is(13, "where(1, 9)", x.where(1, 9), -1);
    }

    private static void same() {
        Counted x = new Counted();
        Due.read(x, MINIMUS + ";cpppppp");
        due.is(14, "same(0)", x.same(0), 0);
        due.is(14, "same(23)", x.same(23), 23);
        due.is(14, "same(24)", x.same(24), 0);
        due.is(14, "same(25)", x.same(25), 1);
        due.is(14, "same(48)", x.same(48), 0);
        due.is(14, "same(47)", x.same(47), 23);
        due.is(14, "same(49)", x.same(49), -1);
        due.is(14, "same(-1)", x.same(-1), -1);
    }

    private static void good() {
        int[] goodOnes = {5, 8, 13, 21, 34};
        for (int n = 4; n <= 8; n++) {
            Counted x = new Counted();
            x.bells(n);
            int count = 0;
            for (int places = 0; places < 1 << n; places++) {
                count += x.good(places);
            }
            due.is(15, "GOOD CHANGES of " + n, count, goodOnes[n - 4]);
            due.is(15, "good(-1)", x.good(-1), -2);
            due.is(15, "good(2 to the n)", x.good(1 << n), -2);
            due.is(15, "good(0)", x.good(0), n % 2 == 0 ? 1 : 0);
            due.is(15, "good(all)", x.good((1 << n) - 1), 1);
        }
        Counted x = new Counted();
        x.bells(4);
        int[] of4 = {0, 3, 9, 12, 15};
        for (int places : of4) {
            due.is(15, "good(" + places + ") of 4", x.good(places), 1);
        }
        due.is(15, "good(6) of 4", x.good(6), 0);
        due.is(15, "good(5) of 4", x.good(5), 0);
    }
}
