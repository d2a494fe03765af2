/** Objects made ready, from a new one to one that is full: on each of them calls are tried. */
enum Ready {
    /** As it comes: no CHANGES, no IMAGE, nothing told by hand, no TAPE. */
    NEW(6, 0, 0),
    /** A touch that is TRUE, an IMAGE of another one, a little of all else. */
    TRUE(6, 12, 36),
    /** An odd number of BELLS; the IMAGE is as it is. */
    ODD(5, 10, 20),
    /** One CHANGE, which is false; TAPES of no item. */
    FALSE(4, 1, 12),
    /** No CHANGES, but calls and LEADS. */
    BARE(8, 0, 0),
    /** As much of each as there may be. */
    FULL(8, 16, 192);

    /** 100 bytes that are a set-up. */
    static final String FULL_TEXT = "n8;m1278.1278.1278.1278.1278.1278.1278.1278.1278.1278.1278.1278.1278.1278.1278.1278"
            + ";b1234;cpbspbspbs";

    final int n;
    final int changes;
    final int last;

    Ready(int n, int changes, int last) {
        this.n = n;
        this.changes = changes;
        this.last = last;
    }

    Counted make() {
        Counted x = new Counted();
        switch (this) {
            case TRUE:
                makeTrue(x);
                break;
            case ODD:
                makeOdd(x);
                break;
            case FALSE:
                makeFalse(x);
                break;
            case BARE:
                makeBare(x);
                break;
            case FULL:
                makeFull(x);
                break;
            default:
                break;
        }
        return x;
    }

    /** Whether of SEEN, EVENTS, the BOOK and THE TEXT there are as many as there may be. */
    boolean isFull() {
        return this == FULL;
    }

    boolean hasImage() {
        return this != NEW && this != BARE;
    }

    private static void makeTrue(Counted x) {
        x.reads("n4;mx14x14.12;b14;cbp");
        x.see(2, 1, 2);
        x.event(3, 4);
        x.book(1, 2);
        x.image();
        x.reads("n6;mx16x16x16x16x16x12;b14;s1234;cbbb");
        x.call(11, 2);
        x.pattern(1, 1);
        x.pattern(7, 3);
        x.see(36, 1, 1);
        x.see(12, 4, 5);
        x.event(0, 2);
        x.event(2, 1);
        x.book(0, 1);
        x.book(5, 3);
        x.feeds("m1256x;cs");
        x.tape(0, 0, 8);
        x.items(0, 1, 2, 1, 4, 3, 6, 5);
        x.tape(3, 3, 2);
        x.item(3, 1, Long.MIN_VALUE);
    }

    private static void makeOdd(Counted x) {
        x.reads("n5;m5.1.5.1.5.1.5.1.5.125;b145;cpb");
        x.pattern(5, 5);
        x.see(10, 2, 3);
        x.event(1, 0);
        x.book(10, 1);
        x.book(193 - 1, 1);
        x.image();
        x.feeds("n9;b3.");
        x.tape(5, 0, 60);
        x.items(5, 55, 1, 2, 3, 4, 5);
        x.tape(4, 4, 3);
        x.item(4, 2, 7);
    }

    private static void makeFalse(Counted x) {
        x.bells(4);
        x.image();
        x.change(15);
        x.leads(12);
        x.see(1, 1, 1);
        for (int tape = 0; tape < 5; tape++) {
            x.tape(tape, tape, 0);
        }
        x.feed(0);
    }

    private static void makeBare(Counted x) {
        x.bells(8);
        x.calls(1, 129);
        x.calls(2, 3);
        x.leads(12);
        x.call(0, 1);
        x.call(11, 2);
        x.see(192, 8, 8);
        x.event(2, 16);
        x.book(0, 1);
        x.book(192, 8);
        x.tape(2, 2, 60);
        x.item(2, 59, Integer.MIN_VALUE);
    }

    private static void makeFull(Counted x) {
        x.reads("n7;m7.1.7.3.7;b147;cbpb");
        x.pattern(2, 2);
        x.see(4, 2, 4);
        x.event(1, 1);
        x.book(3, 4);
        x.image();
        x.reads("n8;mx18x18x18x18x18x18x18x12;b14;s1234;csbpsbpsbpsbp");
        int[] pattern = {1, 0, 3, 0, 8, 0, 7, 2};
        for (int place = 1; place <= 8; place++) {
            x.pattern(place, pattern[place - 1]);
        }
        for (int i = 0; i < 5; i++) {
            x.see(16 * i, 1, 1);
        }
        int[][] events = {{0, 0}, {1, 2}, {2, 2}, {3, 5}, {1, 3}, {2, 0}, {0, 11}, {3, 7}};
        for (int[] event : events) {
            x.event(event[0], event[1]);
        }
        for (int i = 0; i < 8; i++) {
            x.book(i < 7 ? 16 * i : 192, 1);
        }
        x.feeds(FULL_TEXT);
        for (int tape = 0; tape < 6; tape++) {
            x.tape(tape, tape % 5, 60);
            x.items(tape, 0, 1, 2, 3, 4, 5, 6, 7, 8);
            x.items(tape, 58, -1, -128);
        }
    }
}
