/** Tries calls on objects made ready in every way, and sees to it that they change nothing. */
final class Trials {
    private final Due due;

    Trials(Due due) {
        this.due = due;
    }

    /**
     * Numbers that are none of least to most: those beside them, those that would be some of them if only
     * their lowest bits were looked at, the least and the greatest int.
     */
    static int[] beyond(int least, int most) {
        int[] numbers = {least - 1, most + 1, least - 2, most + 2, least - 256, most + 256, least + 256, most - 256,
            least + 65536, most - 65536, least + Integer.MIN_VALUE, most + Integer.MIN_VALUE,
            Integer.MIN_VALUE, Integer.MIN_VALUE + 1, Integer.MAX_VALUE, Integer.MAX_VALUE - 1};
        int count = 0;
        int[] kept = new int[numbers.length];
        for (int number : numbers) {
            if (number < least || number > most) {
                kept[count++] = number;
            }
        }
        return java.util.Arrays.copyOf(kept, count);
    }

    /** This call has this answer on each object, and changes nothing: twice, as once. */
    void refused(int promise, String call, long want, Views.Call asked) {
        for (Ready ready : Ready.values()) {
            refused(ready, promise, call, want, asked);
        }
    }

    void refused(Ready ready, int promise, String call, long want, Views.Call asked) {
        String name = ready + ": " + call;
        String seen = Views.of(ready, x -> {
            due.is(promise, name, asked.on(x), want);
            due.is(promise, name + " again", asked.on(x), want);
        });
        due.unchanged(promise, name, Views.of(ready), seen);
    }

    /** This call only asks: twice it answers the same, and changes nothing. */
    void asks(int promise, String call, Views.Call asked) {
        for (Ready ready : Ready.values()) {
            asks(ready, promise, call, asked);
        }
    }

    void asks(Ready ready, int promise, String call, Views.Call asked) {
        String name = ready + ": " + call;
        long first = asked.on(ready.make());
        String seen = Views.of(ready, x -> {
            due.is(promise, name, asked.on(x), first);
            due.is(promise, name + " again", asked.on(x), first);
        });
        due.unchanged(promise, name, Views.of(ready), seen);
    }

    /** These calls have this answer, and do no more than those others do. */
    void as(int promise, String call, Views.Deed deed, Views.Deed other) {
        for (Ready ready : Ready.values()) {
            due.unchanged(promise, ready + ": " + call, Views.of(ready, other), Views.of(ready, deed));
        }
    }
}
