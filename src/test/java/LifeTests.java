import java.util.Random;

/**
 * "What it is": an object is used for up to 512 calls, and its last one answers as its first one. Promise 1:
 * several objects at once, each of its own, one made while the others are in use; each answer beside the model.
 */
public final class LifeTests {
    private static final Due due = new Due();
    private static final int RUNS = 120;
    private static final int AT_ONCE = 3;
    private static final String[] TEXTS = {
        "n4;mx14x14x14x12;b14;s1234;cppp", "n6;mx16x16x16x16x16x12;b14;s1234;cbbb", "n5;m5.1.5.1.5;b123;cbpsp",
        "n8;mx18x18x18x18x18x18x18x12;b14;cpppppppppppp", "mx;cb;b1234;s12", "n7;m7.1.7.1.7.127;cbp", "n4;m1234;cp",
        "b14;s34;mx14", "cpbs", "n6", "n9;mx16", "m1.;n4", "n6;m16x34;b14;s123456;cbsbs;?"};

    private final Counted x = new Counted();
    private final Random chance;
    private String text = "";
    private int fed = 0;

    private LifeTests(Random chance) {
        this.chance = chance;
    }

    public static void main(String[] args) {
        Counted.besideTheModel(due);
        for (int run = 0; run < RUNS; run++) {
            Random chance = new Random(512L * run);
            LifeTests[] lives = new LifeTests[AT_ONCE];
            for (int i = 0; i < AT_ONCE; i++) {
                lives[i] = new LifeTests(chance);
            }
            for (int calls = 0; calls < AT_ONCE * 512; calls++) {
                LifeTests life = lives[chance.nextInt(AT_ONCE)];
                for (int i = 0; life.x.left() == 0 && i < AT_ONCE; i++) {
                    life = lives[i];
                }
                life.call();
            }
            for (LifeTests life : lives) {
                due.is(0, "calls left of run " + run, life.x.left(), 0);
            }
        }
        due.end("LifeTests");
    }

    /** From least to most, at times one beside. */
    private int number(int least, int most) {
        int wide = chance.nextInt(12) == 0 ? 1 : 0;
        return least - wide + chance.nextInt(most - least + 1 + 2 * wide);
    }

    private void call() {
        switch (chance.nextInt(5)) {
            case 0:
                feed();
                break;
            case 1:
                change();
                break;
            case 2:
                tapes();
                break;
            default:
                ask();
        }
    }

    private void feed() {
        if (fed < text.length()) {
            x.feed(text.charAt(fed++));
        } else {
            x.read();
            text = TEXTS[chance.nextInt(TEXTS.length)];
            fed = 0;
        }
    }

    private void change() {
        switch (chance.nextInt(12)) {
            case 0:
                x.bells(chance.nextInt(5) == 0 ? number(4, 8) : 0);
                break;
            case 1:
                x.change(new int[] {0, 9, 33, 129, 3, 15, 63, 12}[chance.nextInt(8)]);
                break;
            case 2:
                x.calls(number(1, 2), new int[] {-1, 0, 9, 3, 15, 63}[chance.nextInt(6)]);
                break;
            case 3:
                x.call(number(0, 11), number(0, 2));
                break;
            case 4:
                x.leads(number(1, 12));
                break;
            case 5:
                x.pattern(number(1, 8), chance.nextBoolean() ? 0 : number(1, 8));
                break;
            case 6:
                x.see(number(0, 20), number(1, 5), number(1, 5));
                break;
            case 7:
                x.event(number(0, 3), number(0, 11));
                break;
            case 8:
                x.book(number(0, 20), number(1, 4));
                break;
            case 9:
                x.image();
                break;
            case 10:
                x.undo();
                break;
            default:
                x.good(number(0, 255));
        }
    }

    private void ask() {
        switch (chance.nextInt(15)) {
            case 0:
                x.of(number(0, 3), number(0, 15));
                break;
            case 1:
                x.told(number(0, 7));
                break;
            case 2:
                x.at(number(0, 40), number(1, 8));
                break;
            case 3:
                x.where(number(0, 40), number(1, 8));
                break;
            case 4:
                x.same(number(0, 100));
                break;
            case 5:
                x.music(number(0, 3));
                break;
            case 6:
                x.least(number(1, 3), number(0, 1));
                break;
            case 7:
                x.still(number(1, 8));
                break;
            case 8:
                x.ahead(number(1, 8), number(1, 8));
                break;
            case 9:
                x.fits(number(0, 1));
                break;
            case 10:
                x.odds(number(1, 8), number(1, 8), number(0, 1));
                break;
            case 11:
                x.mean(number(0, 1));
                break;
            case 12:
                x.after(number(0, 2));
                break;
            case 13:
                x.looked();
                break;
            default:
                x.count(number(0, 3));
        }
    }

    private void tapes() {
        int tape = number(0, 5);
        switch (chance.nextInt(5)) {
            case 0:
                x.tape(tape, chance.nextBoolean() ? 0 : number(-1, 4), number(0, 60));
                break;
            case 1:
                x.item(tape, number(0, 12), chance.nextBoolean() ? chance.nextLong() : number(1, 8));
                break;
            case 2:
                x.peek(tape, number(0, 60));
                break;
            case 3:
                x.shift(tape, number(0, 10), number(0, 5), number(0, 10), number(0, 20));
                break;
            default:
                x.judge(number(0, 20), tape, number(0, 12));
        }
    }
}
