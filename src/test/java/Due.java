/** Counts the answers that are not the due ones; each test's main ends with it. */
final class Due {
    private int asked = 0;
    private int wrong = 0;

    void is(int promise, String call, long got, long want) {
        asked++;
        if (got != want) {
            wrong++;
            System.out.println("promise " + promise + ": " + call + " answered " + got + ", due is " + want);
        }
    }

    void holds(String rule, boolean so) {
        asked++;
        if (!so) {
            wrong++;
            System.out.println("not so: " + rule);
        }
    }

    /** Two looks at an object, of which the second may show no change. */
    void unchanged(int promise, String call, String before, String behind) {
        asked++;
        if (!before.equals(behind)) {
            wrong++;
            int place = 0;
            while (place < before.length() && place < behind.length() && before.charAt(place) == behind.charAt(place)) {
                place++;
            }
            int line = before.lastIndexOf('\n', place - 1) + 1;
            System.out.println("promise " + promise + ": " + call + " changes something, seen from "
                    + before.substring(line, Math.min(line + 6, before.length())) + " at sign " + (place - line));
        }
    }

    void text(int promise, String call, String got, String want) {
        asked++;
        if (!got.equals(want)) {
            wrong++;
            System.out.println("promise " + promise + ": " + call + " is " + got + ", due is " + want);
        }
    }

    void end(String test) {
        System.out.println(test + ": " + asked + " answers, " + wrong + " not as due");
        if (wrong != 0 || asked == 0) {
            System.exit(1);
        }
    }

    /** Feeds a text and reads it. */
    static int read(Counted x, String text) {
        for (int i = 0; i < text.length(); i++) {
            x.feed(text.charAt(i));
        }
        return x.read();
    }

    /** A ROW as a text of its BELLS. */
    static String row(Counted x, int row) {
        StringBuilder bells = new StringBuilder();
        for (int place = 1; place <= x.told(0); place++) {
            bells.append(x.at(row, place));
        }
        return bells.toString();
    }

    /** All that can be asked of an object, as one text: as before a refused call, so behind it. */
    static String all(Counted x) {
        StringBuilder all = new StringBuilder();
        for (int what = 0; what <= 7; what++) {
            all.append(x.told(what)).append(' ');
        }
        for (int what = 0; what <= 3; what++) {
            all.append(x.count(what)).append(' ').append(x.music(what)).append(' ');
        }
        for (int k = 0; k < 16; k++) {
            all.append(x.of(0, k)).append(' ').append(x.of(3, k)).append(' ');
        }
        all.append(x.of(1, 0)).append(' ').append(x.of(2, 0)).append(' ');
        for (int what = 0; what <= 2; what++) {
            all.append(x.after(what)).append(' ');
        }
        all.append(x.fits(0)).append(' ').append(x.fits(1)).append(' ').append(x.looked()).append(' ');
        for (int tape = 0; tape < 6; tape++) {
            for (int i = 0; i < 3; i++) {
                all.append(x.peek(tape, i)).append(' ');
            }
        }
        return all.toString();
    }
}
