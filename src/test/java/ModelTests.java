import java.util.Random;

/** Runs of calls by chance (always the same ones), each answer as the model's. */
public final class ModelTests {
    private static final Due due = new Due();
    private static final int RUNS = 1500;
    /** An object is used for 512 calls: so many of the tests' own are sure to stay below. */
    private static final int MOST_ASKED = 200;
    private static final int MOST_FED = 102;
    private static final int[] EDGES = {Integer.MIN_VALUE, Integer.MAX_VALUE, -2, -1, 0, 1, 99, 100, 127, 128, 255, 256};
    private static final String[] METHODS = {
        "n4;mx14x14x14x12;b14;s1234", "n4;m1234", "n4;mx14;b12;s1234", "n4;m34.14x;b12;sx",
        "n4;mx14.12;b1234;s34", "n5;m5.1.5.1.5.1.5.1.5.125;b145;s123", "n5;m3.1.5;b123;s345",
        "n5;m5.1;b345;s123", "n6;mx16x16x16x16x16x12;b14;s1234", "n6;mx16;b14;s12", "n6;m3.1.5.3.1.3x;b16",
        "n7;m7.1.7.1.7.1.7.1.7.1.7.1.7.127;b147;s12347", "n7;m3.1.7.3.1.3;b345;s567",
        "n8;mx18x18x18x18x18x18x18x12;b14;s1234", "n8;mx38x14x1258x16;b34;s1256",
        "n8;m345678.145678.123678.123478.123458.123456;b1234;s12"};

    private final Random chance;
    private final Counted x = new Counted();
    private final Model model = new Model();
    private final int run;
    private int n = 6;
    private int asked = 0;

    private ModelTests(int run) {
        this.run = run;
        chance = new Random(20261118L + run);
    }

    public static void main(String[] args) {
        for (int run = 0; run < RUNS; run++) {
            ModelTests tests = new ModelTests(run);
            while (tests.asked < MOST_ASKED) {
                tests.next();
            }
        }
        due.end("ModelTests");
    }

    private void same(int promise, String call, long got, long want) {
        asked++;
        due.is(promise, "run " + run + ": " + call, got, want);
    }

    /** A number from least to most, seldom one beside or far away. */
    private int number(int least, int most) {
        if (chance.nextInt(15) == 0) {
            switch (chance.nextInt(3)) {
                case 0:
                    return least - 1;
                case 1:
                    return most + 1;
                default:
                    return EDGES[chance.nextInt(EDGES.length)];
            }
        }
        return least + chance.nextInt(most - least + 1);
    }

    private int row() {
        return number(0, Math.max(1, chance.nextInt(4) == 0 ? 192 : x.told(3)));
    }

    /** PLACES, often of a GOOD CHANGE. */
    private int places() {
        if (chance.nextInt(5) == 0) {
            return number(-1, (1 << n) - 1);
        }
        int places = 0;
        for (int p = 0; p < n; p++) {
            if (p + 1 < n && chance.nextInt(3) > 0) {
                p++;
            } else {
                places |= 1 << p;
            }
        }
        return places;
    }

    private String word() {
        if (chance.nextInt(3) == 0) {
            return "x";
        }
        StringBuilder word = new StringBuilder();
        int places = places();
        for (int p = 0; p < 8; p++) {
            if ((places >> p & 1) != 0) {
                word.append(p + 1);
            }
        }
        if (chance.nextInt(6) == 0) {
            word.append(1 + chance.nextInt(8));
        }
        return word.length() == 0 ? "x" : word.toString();
    }

    private String clause() {
        StringBuilder clause = new StringBuilder();
        switch (chance.nextInt(8)) {
            case 0:
                return clause.append('n').append(chance.nextInt(4) == 0 ? chance.nextInt(10) : n).toString();
            case 1:
            case 2:
                clause.append('m');
                for (int words = chance.nextInt(chance.nextInt(4) == 0 ? 17 : 6); words >= 0; words--) {
                    String word = word();
                    boolean behindDigits = clause.length() > 1 && clause.charAt(clause.length() - 1) != 'x';
                    clause.append(behindDigits && !word.equals("x") ? "." : "").append(word);
                }
                return clause.toString();
            case 3:
                return clause.append('b').append(word()).toString();
            case 4:
                return clause.append('s').append(word()).toString();
            case 5:
                return METHODS[chance.nextInt(METHODS.length)];
            default:
                clause.append('c');
                for (int calls = chance.nextInt(chance.nextInt(4) == 0 ? 13 : 6); calls >= 0; calls--) {
                    clause.append("ppbs".charAt(chance.nextInt(4)));
                }
                return clause.toString();
        }
    }

    private String text() {
        StringBuilder text = new StringBuilder(clause());
        for (int clauses = chance.nextInt(chance.nextInt(5) == 0 ? 12 : 3); clauses > 0; clauses--) {
            text.append(';').append(clause());
        }
        for (int wrongs = chance.nextInt(4) == 0 ? 1 + chance.nextInt(2) : 0; wrongs > 0; wrongs--) {
            char sign = "x.;12345678nmbscp09 \0".charAt(chance.nextInt(21));
            int place = chance.nextInt(text.length());
            switch (chance.nextInt(4)) {
                case 0:
                    text.insert(place, sign);
                    break;
                case 1:
                    text.setCharAt(place, sign);
                    break;
                case 2:
                    text.setLength(place + 1);
                    break;
                default:
                    text.append(sign);
            }
        }
        return text.toString();
    }

    private void readText() {
        String text = text();
        for (int i = 0; i < text.length() && i < MOST_FED; i++) {
            same(8, "feed", x.feed(text.charAt(i)), model.feed(text.charAt(i)));
        }
        same(9, "read of " + text, x.read(), model.read());
        n = x.told(0);
    }

    private void next() {
        if (chance.nextInt(4) == 0) {
            change();
        } else if (chance.nextInt(4) == 0) {
            tapes();
        } else {
            ask();
        }
    }

    private void change() {
        int a = 0;
        int b = 0;
        switch (chance.nextInt(14)) {
            case 0:
                a = chance.nextInt(4) == 0 ? number(4, 8) : 0;
                same(2, "bells " + a, x.bells(a), model.bells(a));
                n = x.told(0);
                break;
            case 1:
            case 2:
                a = places();
                same(3, "change " + a, x.change(a), model.change(a));
                break;
            case 3:
                a = number(1, 2);
                b = chance.nextInt(6) == 0 ? -1 : places();
                same(4, "calls " + a + " " + b, x.calls(a, b), model.calls(a, b));
                break;
            case 4:
            case 5:
                a = chance.nextInt(3) == 0 ? number(0, 11) : number(0, 4);
                b = number(0, 2);
                same(5, "call " + a + " " + b, x.call(a, b), model.call(a, b));
                break;
            case 6:
            case 7:
                a = chance.nextInt(3) == 0 ? number(1, 12) : number(1, 5);
                same(6, "leads " + a, x.leads(a), model.leads(a));
                break;
            case 8:
                a = number(1, 8);
                b = chance.nextInt(2) == 0 ? 0 : number(0, 8);
                same(7, "pattern " + a + " " + b, x.pattern(a, b), model.pattern(a, b));
                break;
            case 9:
                a = number(0, 127);
                same(8, "feed " + a, x.feed(a), model.feed(a));
                break;
            case 10:
                same(29, "image", x.image(), model.image());
                break;
            case 11:
                if (chance.nextInt(4) == 0) {
                    same(30, "undo", x.undo(), model.undo());
                    n = x.told(0);
                }
                break;
            default:
                readText();
        }
    }

    private void ask() {
        int a = row();
        int b = number(1, n);
        switch (chance.nextInt(22)) {
            case 0:
                a = number(0, 3);
                b = number(0, 15);
                same(10, "of " + a + " " + b, x.of(a, b), model.of(a, b));
                break;
            case 1:
            case 2:
                a = number(0, 7);
                same(11, "told " + a, x.told(a), model.told(a));
                break;
            case 3:
                same(12, "at " + a + " " + b, x.at(a, b), model.at(a, b));
                break;
            case 4:
                same(13, "where " + a + " " + b, x.where(a, b), model.where(a, b));
                break;
            case 5:
                same(14, "same " + a, x.same(a), model.same(a));
                break;
            case 6:
                a = places();
                same(15, "good " + a, x.good(a), model.good(a));
                break;
            case 7:
                a = number(0, 3);
                same(16, "music " + a, x.music(a), model.music(a));
                break;
            case 8:
                a = number(1, chance.nextInt(5) == 0 ? 5 : 4);
                b = number(0, 1);
                same(17, "least " + a + " " + b, x.least(a, b), model.least(a, b));
                break;
            case 9:
                same(18, "still " + b, x.still(b), model.still(b));
                break;
            case 10:
                a = number(1, n);
                same(19, "ahead " + a + " " + b, x.ahead(a, b), model.ahead(a, b));
                break;
            case 11:
            case 12:
                see(a, b);
                break;
            case 13:
            case 14:
                a = number(0, 1);
                same(21, "fits " + a, x.fits(a), model.fits(a));
                break;
            case 15:
                int part = number(0, 1);
                a = number(1, n);
                same(22, "odds " + a + " " + b + " " + part, x.odds(a, b, part), model.odds(a, b, part));
                break;
            case 16:
                a = number(0, 1);
                same(23, "mean " + a, x.mean(a), model.mean(a));
                break;
            case 17:
                a = number(0, 3);
                b = a < 2 ? number(0, 11) : a == 2 ? number(0, 16) : number(1, 12);
                same(24, "event " + a + " " + b, x.event(a, b), model.event(a, b));
                break;
            case 18:
                a = number(0, 2);
                same(25, "after " + a, x.after(a), model.after(a));
                break;
            case 19:
                b = chance.nextInt(3) == 0 || x.at(a, 1) < 0 ? b : x.at(a, 1);
                same(26, "book " + a + " " + b, x.book(a, b), model.book(a, b));
                break;
            case 20:
                same(27, "looked", x.looked(), model.looked());
                break;
            default:
                a = number(0, 3);
                same(31, "count " + a, x.count(a), model.count(a));
        }
    }

    /** What is seen is often so, but for one of the other changes. */
    private void see(int row, int place) {
        int told = x.at(row, place);
        int bell = told > 0 && chance.nextInt(2) == 0 ? told : number(1, n);
        same(20, "see " + row + " " + place + " " + bell, x.see(row, place, bell), model.see(row, place, bell));
    }

    private void tapes() {
        int tape = number(0, 5);
        int sort = chance.nextInt(2) == 0 ? 0 : number(-1, 4);
        int i = number(0, chance.nextInt(3) == 0 ? 60 : 9);
        switch (chance.nextInt(8)) {
            case 0:
                int length = chance.nextInt(3) == 0 ? number(0, 60) : number(0, 12);
                same(32, "tape " + tape + " " + sort + " " + length, x.tape(tape, sort, length), model.tape(tape, sort, length));
                break;
            case 1:
            case 2:
                long v = chance.nextBoolean() ? chance.nextInt(9) : chance.nextLong();
                same(33, "item " + tape + " " + i + " " + v, x.item(tape, i, v), model.item(tape, i, v));
                break;
            case 3:
                same(34, "peek " + tape + " " + i, x.peek(tape, i), model.peek(tape, i));
                break;
            case 4:
            case 5:
                int other = chance.nextInt(3) == 0 ? tape : number(0, 5);
                int j = number(0, 9);
                int length2 = number(0, 5);
                same(35, "shift " + tape + " " + i + " " + other + " " + j + " " + length2,
                        x.shift(tape, i, other, j, length2), model.shift(tape, i, other, j, length2));
                break;
            default:
                judge(tape, i);
        }
    }

    /** Writes most of a row to the tape first. */
    private void judge(int tape, int i) {
        int row = row();
        int wrong = chance.nextInt(2 * n);
        for (int place = 1; place <= n && i >= 0 && i < 61; place++) {
            int bell = place == wrong ? 9 : x.at(row, place);
            same(33, "item", x.item(tape, i + place - 1, bell), model.item(tape, i + place - 1, bell));
        }
        same(28, "judge " + row + " " + tape + " " + i, x.judge(row, tape, i), model.judge(row, tape, i));
    }
}
