import java.util.EnumMap;
import java.util.Map;

/**
 * All that an object has, looked at from several sides. To see it whole, some sides change it (they read
 * THE TEXT, go back to THE IMAGE, empty the PATTERN): so each side has an object of its own.
 */
final class Views {
    /** What a test does to an object. */
    interface Deed {
        void to(Counted x);
    }

    /** A call, and what it answers. */
    interface Call {
        long on(Counted x);
    }

    private static final int SIDES = 8;
    private static final Map<Ready, String> UNTOUCHED = new EnumMap<>(Ready.class);

    private Views() {
    }

    /** Of an object made ready, to which nothing else is done. */
    static String of(Ready ready) {
        return UNTOUCHED.computeIfAbsent(ready, r -> of(r, x -> { }));
    }

    /** Of an object made ready, to which this is done. */
    static String of(Ready ready, Deed deed) {
        StringBuilder all = new StringBuilder();
        for (int side = 0; side < SIDES; side++) {
            Counted x = ready.make();
            deed.to(x);
            all.append("side ").append(side).append(": ");
            look(x, side, all);
            all.append('\n');
        }
        return all.toString();
    }

    /** Asks all that rings THE TOUCH, or another one. */
    static void ask(Counted x) {
        for (int what = 0; what <= 7; what++) {
            x.told(what);
        }
        x.same(x.told(3));
        x.music(2);
        x.least(2, 0);
        x.fits(0);
        x.after(1);
        x.looked();
        x.mean(0);
    }

    private static void look(Counted x, int side, StringBuilder all) {
        switch (side) {
            case 0:
                touch(x, all);
                break;
            case 1:
                rows(x, all);
                break;
            case 2:
                tapes(x, 0, 2, all);
                break;
            case 3:
                tapes(x, 3, 5, all);
                break;
            case 4:
                all.append(x.read()).append(' ');
                touch(x, all);
                break;
            case 5:
                byHand(x, all);
                break;
            case 6:
                all.append(x.undo()).append(' ');
                touch(x, all);
                rowsOf(x, 12, all);
                break;
            default:
                all.append(x.undo()).append(' ');
                byHand(x, all);
        }
    }

    private static void touch(Counted x, StringBuilder all) {
        for (int what = 0; what <= 7; what++) {
            all.append(x.told(what)).append(' ');
        }
        for (int k = 0; k <= 16; k++) {
            all.append(x.of(0, k)).append(' ').append(x.of(3, k)).append(' ');
        }
        all.append(x.of(1, 0)).append(' ').append(x.of(2, 0)).append(' ');
        for (int what = 0; what <= 3; what++) {
            all.append(x.music(what)).append(' ').append(x.count(what)).append(' ');
        }
        for (int part = 0; part <= 1; part++) {
            all.append(x.mean(part)).append(' ').append(x.odds(1, 1, part)).append(' ');
            all.append(x.least(2, part)).append(' ').append(x.fits(part)).append(' ');
        }
        for (int what = 0; what <= 2; what++) {
            all.append(x.after(what)).append(' ');
        }
        all.append(x.looked()).append(' ').append(x.still(1)).append(' ').append(x.ahead(1, 2));
    }

    private static void rows(Counted x, StringBuilder all) {
        rowsOf(x, 192, all);
    }

    /** Of each ROW one BELL, of each a further one. */
    private static void rowsOf(Counted x, int most, StringBuilder all) {
        int n = x.told(0);
        for (int r = 0; r <= most; r++) {
            all.append(x.at(r, 1 + r % n)).append(' ');
        }
    }

    private static void tapes(Counted x, int from, int to, StringBuilder all) {
        for (int tape = from; tape <= to; tape++) {
            for (int i = 0; i <= 60; i++) {
                all.append(x.peek(tape, i)).append(' ');
            }
        }
    }

    /** The PATTERN; then what of SEEN, EVENTS and the BOOK shows by other LEADS. */
    private static void byHand(Counted x, StringBuilder all) {
        for (int place = 1; place <= 8; place++) {
            all.append(x.pattern(place, 0)).append(' ');
        }
        for (int leads = 1; leads <= 12; leads++) {
            all.append(x.leads(leads)).append(' ').append(x.looked()).append(' ');
            all.append(x.fits(0)).append(' ').append(x.fits(1)).append(' ');
            all.append(x.after(0)).append(' ').append(x.after(1)).append(' ').append(x.after(2)).append(' ');
        }
    }
}
