import java.lang.management.ManagementFactory;

/** All calls of a run live in one room: so only the constructor makes objects, and no call does. */
public final class RoomTests {
    private static final Due due = new Due();
    private static final int CALLS = 512;
    private static final int PARTS = 8;
    private static final int ELEMENTS_OF_AN_OBJECT = 8000;

    private static final com.sun.management.ThreadMXBean room =
            (com.sun.management.ThreadMXBean) ManagementFactory.getThreadMXBean();

    public static void main(String[] args) {
        long thread = Thread.currentThread().getId();
        BellTouches x = new BellTouches();
        allCalls(x);
        long before = room.getThreadAllocatedBytes(thread);
        long nothing = room.getThreadAllocatedBytes(thread) - before;
        before = room.getThreadAllocatedBytes(thread);
        allCalls(x);
        long calls = room.getThreadAllocatedBytes(thread) - before;
        due.holds("no call makes an object: " + (calls - nothing) + " bytes", calls - nothing <= 0);
        before = room.getThreadAllocatedBytes(thread);
        x = new BellTouches();
        long made = room.getThreadAllocatedBytes(thread) - before;
        due.holds("an object stays small: " + made + " bytes", made <= PARTS * (long) ELEMENTS_OF_AN_OBJECT);
        dearestCalls();
        due.end("RoomTests");
    }

    /** Each sort of call once, on the longest touch. */
    private static void allCalls(BellTouches x) {
        x.bells(8);
        x.feed('n');
        x.feed('8');
        x.read();
        for (int i = 0; i < 16; i++) {
            x.change(i % 2 == 0 ? 0 : 129);
        }
        x.calls(1, 9);
        x.calls(2, 15);
        x.call(3, 1);
        x.leads(12);
        x.pattern(1, 1);
        x.see(192, 1, 1);
        x.event(1, 2);
        x.book(192, 1);
        x.image();
        x.undo();
        x.tape(0, 0, 60);
        x.tape(1, 0, 60);
        x.item(0, 1, 1);
        x.shift(0, 0, 1, 0, 60);
        x.tape(1, -1, 0);
        long sum = x.of(0, 0) + x.at(192, 8) + x.where(192, 8) + x.same(192) + x.good(0) + x.still(1)
                + x.ahead(1, 2) + x.fits(0) + x.odds(1, 1, 0) + x.mean(0) + x.looked() + x.judge(0, 0, 0)
                + x.count(0) + x.peek(0, 0) + x.least(5, 0);
        for (int what = 0; what < 8; what++) {
            sum += x.told(what) + x.music(what) + x.after(what);
        }
        due.holds("calls answer", sum != 0);
    }

    private static void dearestCalls() {
        Counted x = new Counted();
        Due.read(x, "n8;mx18x18x18x18x18x18x18x18;b12;s1234;cpppppppppppp");
        int first = x.least(5, 0);
        for (int i = 0; i < CALLS / 2; i++) {
            due.is(17, "least(5, 0)", x.least(5, 0), first);
        }
    }
}
