/** Bells rung by place words. What each call answers is told by number in ../shared/DOC.md. */
public final class BellTouches {
    public static final int NONE = -1, BAD = -2, STATE = -3, FULL = -4;
    public static final long NO = Long.MIN_VALUE;

    private static final int NOT_FOUND = -5;
    private static final int FAULTY = -10;
    private static final int NOTHING = -11, CAST = -12, PLACE = -13, SIZE = -14;
    private static final int ENDED = 100;

    private static final int LEAST_BELLS = 4, FIRST_BELLS = 6, MOST_BELLS = 8;
    private static final int MOST_CHANGES = 16, MOST_LEADS = 12, MOST_ROW = MOST_CHANGES * MOST_LEADS;
    private static final int PLAIN = 0, BOB = 1, SINGLE = 2, SORTS_OF_CALLS = 3;
    private static final int NO_CHANGE = -1;
    private static final int MOST_SEARCHED = 5;
    private static final int SORTS_OF_MUSIC = 4;
    private static final int MOST_SEEN = 5, MOST_EVENTS = 8, MOST_BOOK = 8;
    private static final int CLEAR = -1;
    private static final int TAPES = 6, MOST_ITEMS = 60;
    private static final int BYTES = 0, SHORTS = 1, INTS = 2, LONGS = 3, BOOLEANS = 4, EMPTY = -1;

    private final Setup setup = new Setup();
    private final Setup kept = new Setup();
    private final Setup trialSetup = new Setup();
    private final Touch touch = new Touch();
    private final Touch trial = new Touch();
    private final Fewest fewest = new Fewest();
    private final SetupText text = new SetupText();
    private final Tape[] tapes = new Tape[TAPES];
    private boolean hasImage = false;
    private boolean stale = true;

    public BellTouches() {
        for (int i = 0; i < TAPES; i++) {
            tapes[i] = new Tape();
        }
    }

    // ---- bells, changes, calls

    public int bells(int n) {
        if (n < LEAST_BELLS || n > MOST_BELLS) {
            return BAD;
        }
        int before = setup.n;
        setup.begin(n);
        stale = true;
        return before;
    }

    public int change(int places) {
        if (!isPlaces(places)) {
            return BAD;
        }
        if (!Row.isGood(setup.n, places)) {
            return STATE;
        }
        if (setup.changeCount >= MOST_CHANGES) {
            return FULL;
        }
        setup.changes[setup.changeCount] = places;
        setup.changeCount++;
        stale = true;
        return setup.changeCount;
    }

    public int calls(int what, int places) {
        if (what != BOB && what != SINGLE) {
            return NONE;
        }
        if (places != NO_CHANGE) {
            if (!isPlaces(places)) {
                return BAD;
            }
            if (!Row.isGood(setup.n, places)) {
                return STATE;
            }
        }
        int before = setup.calledChange(what);
        setup.setCalledChange(what, places);
        stale = true;
        return before == NO_CHANGE ? 0 : 1;
    }

    public int call(int lead, int call) {
        if (!isLead(lead)) {
            return NONE;
        }
        if (call < PLAIN || call > SINGLE) {
            return BAD;
        }
        int before = setup.leadCalls[lead];
        setup.leadCalls[lead] = call;
        stale = true;
        return before;
    }

    public int leads(int n) {
        if (n < 1 || n > MOST_LEADS) {
            return BAD;
        }
        int before = setup.leadCount;
        setup.leadCount = n;
        stale = true;
        return before;
    }

    public int pattern(int place, int bell) {
        if (place < 1 || place > MOST_BELLS) {
            return NONE;
        }
        if (bell < 0 || bell > MOST_BELLS) {
            return BAD;
        }
        int before = setup.patternBells[place - 1];
        setup.patternBells[place - 1] = bell;
        return before;
    }

    public int feed(int sign) {
        if (sign < 0 || sign > 127) {
            return BAD;
        }
        return text.append(sign) ? text.length : FULL;
    }

    public int read() {
        int fault = text.parse();
        text.length = 0;
        if (fault != NOT_FOUND) {
            return FAULTY - fault;
        }
        stale = true;
        return text.perform(setup);
    }

    // ---- what is told

    public int of(int side, int k) {
        switch (side) {
            case 0:
                return k >= 0 && k < setup.changeCount ? setup.changes[k] : NONE;
            case 1:
                return orNotFound(setup.bob);
            case 2:
                return orNotFound(setup.single);
            case 3:
                return isLead(k) ? setup.leadCalls[k] : NONE;
            default:
                return NONE;
        }
    }

    public int told(int what) {
        switch (what) {
            case 0:
                return setup.n;
            case 1:
                return setup.changeCount;
            case 2:
                return setup.leadCount;
            case 3:
                return rung().last;
            case 4:
                return rung().roundRow();
            case 5:
                return rung().falseRow();
            case 6:
                return rung().isTrue() ? 1 : 0;
            case 7:
                return rung().course();
            default:
                return NONE;
        }
    }

    public int at(int row, int place) {
        if (!isRow(row) || !isBell(place)) {
            return NONE;
        }
        return Row.bellIn(rung().rows[row], place);
    }

    public int where(int row, int bell) {
        if (!isRow(row) || !isBell(bell)) {
            return NONE;
        }
        return Row.placeOf(rung().rows[row], bell);
    }

    public int same(int row) {
        if (!isRow(row)) {
            return NONE;
        }
        return rung().firstAs(row);
    }

    public int good(int places) {
        if (!isPlaces(places)) {
            return BAD;
        }
        return Row.isGood(setup.n, places) ? 1 : 0;
    }

    // ---- music, the fewest calls, paths

    public int music(int what) {
        if (what < 0 || what >= SORTS_OF_MUSIC) {
            return NONE;
        }
        return countMusic(what);
    }

    public int least(int leads, int what) {
        if (leads < 1 || leads > MOST_SEARCHED) {
            return BAD;
        }
        if (what != 0 && what != 1) {
            return NONE;
        }
        fewest.find(setup, leads);
        return what == 0 ? fewest.number : fewest.notPlain;
    }

    public int still(int bell) {
        if (!isBell(bell)) {
            return NONE;
        }
        int[] rows = rung().rows;
        int count = 0;
        for (int r = 1; r <= touch.last; r++) {
            if (Row.placeOf(rows[r], bell) == Row.placeOf(rows[r - 1], bell)) {
                count++;
            }
        }
        return count;
    }

    public int ahead(int one, int other) {
        if (!isBell(one) || !isBell(other) || one == other) {
            return NONE;
        }
        int[] rows = rung().rows;
        int count = 0;
        for (int r = 0; r <= touch.last; r++) {
            if (Row.isRightAhead(rows[r], one, other)) {
                count++;
            }
        }
        return count;
    }

    // ---- seen, odds

    public int see(int row, int place, int bell) {
        if (row == CLEAR) {
            setup.seen.size = 0;
            return 0;
        }
        if (row < 0 || row > MOST_ROW || !isBell(place) || !isBell(bell)) {
            return NONE;
        }
        return setup.seen.append(row, place, bell) ? setup.seen.size : FULL;
    }

    public int fits(int what) {
        if (what != 0 && what != 1) {
            return NONE;
        }
        int count = 0;
        int first = NOT_FOUND;
        trialSetup.copyFrom(setup);
        int end = setup.changeCount > 0 ? 1 << setup.n : 0;
        for (int places = 0; places < end; places++) {
            if (Row.isGood(setup.n, places) && fitsLast(places)) {
                count++;
                first = first == NOT_FOUND ? places : first;
            }
        }
        return what == 0 ? count : first;
    }

    public long odds(int bell, int place, int part) {
        if (!isBell(bell) || !isBell(place) || !isPart(part)) {
            return NO;
        }
        int[] rows = rung().rows;
        int count = 0;
        for (int r = 0; r <= touch.last; r++) {
            if (Row.bellIn(rows[r], place) == bell) {
                count++;
            }
        }
        return lowestTerms(count, touch.last + 1, part);
    }

    public long mean(int part) {
        if (!isPart(part)) {
            return NO;
        }
        int total = 0;
        for (int what = 0; what < SORTS_OF_MUSIC; what++) {
            total += countMusic(what);
        }
        return lowestTerms(total, rung().last + 1, part);
    }

    // ---- events, books

    public int event(int what, int n) {
        if (what == CLEAR) {
            setup.events.size = 0;
            return 0;
        }
        if (what < 0 || what > 3) {
            return NONE;
        }
        if (what <= 1 && !isLead(n)) {
            return NONE;
        }
        if (what == 2 && (n < 0 || n > MOST_CHANGES)) {
            return BAD;
        }
        if (what == 3 && (n < 1 || n > MOST_LEADS)) {
            return BAD;
        }
        return setup.events.append(what, n, 0) ? setup.events.size : FULL;
    }

    public int after(int what) {
        if (what < 0 || what > 2) {
            return NONE;
        }
        trialSetup.copyFrom(setup);
        trialSetup.happen();
        trial.ring(trialSetup);
        switch (what) {
            case 0:
                return trial.roundRow();
            case 1:
                return trial.falseRow();
            default:
                return trial.isTrue() ? 1 : 0;
        }
    }

    public int book(int row, int bell) {
        if (row == CLEAR) {
            setup.book.size = 0;
            return 0;
        }
        if (row < 0 || row > MOST_ROW || !isBell(bell)) {
            return NONE;
        }
        return setup.book.append(row, bell, 0) ? setup.book.size : FULL;
    }

    public int looked() {
        HandRows book = setup.book;
        for (int i = 0; i < book.size; i++) {
            int row = book.first[i];
            if (!isRow(row) || Row.bellIn(rung().rows[row], 1) != book.second[i]) {
                return i;
            }
        }
        return NOT_FOUND;
    }

    // ---- judging, the image, tapes

    public int judge(int row, int tape, int i) {
        if (!isRow(row) || !isTape(tape)) {
            return NONE;
        }
        Tape told = tapes[tape];
        if (told.sort != EMPTY && told.sort != BYTES) {
            return CAST;
        }
        if (i < 0) {
            return ENDED;
        }
        for (int place = 1; place <= setup.n; place++) {
            if (!told.has(i, place)) {
                return ENDED + place - 1;
            }
            if (told.items[i + place - 1] != Row.bellIn(rung().rows[row], place)) {
                return place;
            }
        }
        return NOT_FOUND;
    }

    public int image() {
        kept.copyFrom(setup);
        hasImage = true;
        return setup.changeCount;
    }

    public int undo() {
        if (!hasImage) {
            return STATE;
        }
        setup.copyFrom(kept);
        stale = true;
        return setup.changeCount;
    }

    public int count(int what) {
        switch (what) {
            case 0:
                return setup.seen.size;
            case 1:
                return setup.events.size;
            case 2:
                return setup.book.size;
            case 3:
                return text.length;
            default:
                return BAD;
        }
    }

    public int tape(int tape, int sort, int n) {
        if (!isTape(tape)) {
            return NONE;
        }
        if (sort < EMPTY || sort > BOOLEANS) {
            return BAD;
        }
        if (sort == EMPTY) {
            tapes[tape].begin(EMPTY, 0);
            return 1;
        }
        if (n > MOST_ITEMS) {
            return BAD;
        }
        if (n < 0) {
            return SIZE;
        }
        tapes[tape].begin(sort, n);
        return 1;
    }

    public int item(int tape, int i, long v) {
        if (!isTape(tape)) {
            return NONE;
        }
        Tape changed = tapes[tape];
        if (changed.sort == EMPTY) {
            return NOTHING;
        }
        if (!changed.has(i, 1)) {
            return PLACE;
        }
        changed.items[i] = Tape.narrowed(changed.sort, v);
        return 1;
    }

    public long peek(int tape, int i) {
        if (!isTape(tape) || !tapes[tape].has(i, 1)) {
            return NO;
        }
        return tapes[tape].items[i];
    }

    public int shift(int tape, int i, int other, int j, int n) {
        if (!isTape(tape) || !isTape(other)) {
            return NONE;
        }
        Tape from = tapes[tape];
        Tape to = tapes[other];
        if (from.sort == EMPTY || to.sort == EMPTY) {
            return NOTHING;
        }
        if (from.sort != to.sort) {
            return CAST;
        }
        if (!from.has(i, n) || !to.has(j, n)) {
            return PLACE;
        }
        System.arraycopy(from.items, i, to.items, j, n);
        return n;
    }

    // ---- what the calls share

    private boolean isPlaces(int places) {
        return places >= 0 && places < (1 << setup.n);
    }

    /** PLACES have the same numbers as BELLS. */
    private boolean isBell(int number) {
        return number >= 1 && number <= setup.n;
    }

    private boolean isRow(int row) {
        return row >= 0 && row <= rung().last;
    }

    private static boolean isLead(int lead) {
        return lead >= 0 && lead < MOST_LEADS;
    }

    private static boolean isTape(int tape) {
        return tape >= 0 && tape < TAPES;
    }

    private static boolean isPart(int part) {
        return part == 0 || part == 1;
    }

    private static int orNotFound(int places) {
        return places == NO_CHANGE ? NOT_FOUND : places;
    }

    private Touch rung() {
        if (stale) {
            touch.ring(setup);
            stale = false;
        }
        return touch;
    }

    private int countMusic(int what) {
        int[] rows = rung().rows;
        int count = 0;
        for (int r = 1; r <= touch.last; r++) {
            if (setup.isMusic(rows[r], what)) {
                count++;
            }
        }
        return count;
    }

    /** Whether all that was seen is so, were the last change this one; trialSetup is a copy of setup. */
    private boolean fitsLast(int places) {
        int lastChange = trialSetup.changeCount - 1;
        if (lastChange < 0) {
            return false;
        }
        trialSetup.changes[lastChange] = places;
        trial.ring(trialSetup);
        HandRows seen = setup.seen;
        for (int i = 0; i < seen.size; i++) {
            int row = seen.first[i];
            if (row <= trial.last && Row.bellIn(trial.rows[row], seen.second[i]) != seen.third[i]) {
                return false;
            }
        }
        return true;
    }

    private static long lowestTerms(int above, int below, int part) {
        int chosen = part == 0 ? above : below;
        for (int divisor = below; divisor > 1; divisor--) {
            if (above % divisor == 0 && below % divisor == 0) {
                return chosen / divisor;
            }
        }
        return chosen;
    }

    /**
     * A row is one int, four bits a place, place 1 lowest: so a change is a few shifts, and two rows
     * are compared at once.
     */
    private static final class Row {
        private static final int NOT_GOOD = -1;

        static int rounds(int n) {
            int row = 0;
            for (int place = 1; place <= n; place++) {
                row |= place << (4 * (place - 1));
            }
            return row;
        }

        static int bellIn(int row, int place) {
            return (row >>> (4 * (place - 1))) & 15;
        }

        static int placeOf(int row, int bell) {
            for (int place = 1; place <= MOST_BELLS; place++) {
                if (bellIn(row, place) == bell) {
                    return place;
                }
            }
            return 0;
        }

        static boolean isRightAhead(int row, int one, int other) {
            return placeOf(row, one) + 1 == placeOf(row, other);
        }

        static boolean isGood(int n, int places) {
            return pairs(n, places) != NOT_GOOD;
        }

        /** The bits of the first place of each pair that swaps; never below 0, as place 8 is never first. */
        static int pairs(int n, int places) {
            if (places < 0 || (places >> n) != 0) {
                return NOT_GOOD;
            }
            int pairs = 0;
            int place = 0;
            while (place < n) {
                if (isKept(places, place)) {
                    place++;
                } else {
                    if (place + 1 >= n || isKept(places, place + 1)) {
                        return NOT_GOOD;
                    }
                    pairs |= 15 << (4 * place);
                    place += 2;
                }
            }
            return pairs;
        }

        private static boolean isKept(int places, int place) {
            return ((places >> place) & 1) != 0;
        }

        static int swapped(int row, int pairs) {
            int kept = row & ~(pairs | (pairs << 4));
            return kept | ((row & pairs) << 4) | ((row >>> 4) & pairs);
        }
    }

    /** Rows of up to three numbers that are told by hand. */
    private static final class HandRows {
        final int[] first;
        final int[] second;
        final int[] third;
        int size = 0;

        HandRows(int most) {
            int length = most < 0 ? 0 : most;
            first = new int[length];
            second = new int[length];
            third = new int[length];
        }

        boolean append(int one, int two, int three) {
            if (size < 0 || size >= first.length) {
                return false;
            }
            first[size] = one;
            second[size] = two;
            third[size] = three;
            size++;
            return true;
        }

        void copyFrom(HandRows other) {
            size = 0;
            for (int i = 0; i < other.size; i++) {
                append(other.first[i], other.second[i], other.third[i]);
            }
        }
    }

    /** All that an image holds. */
    private static final class Setup {
        int n = FIRST_BELLS;
        final int[] changes = new int[MOST_CHANGES];
        int changeCount = 0;
        int bob = NO_CHANGE;
        int single = NO_CHANGE;
        final int[] leadCalls = new int[MOST_LEADS];
        int leadCount = 1;
        final int[] patternBells = new int[MOST_BELLS];
        final HandRows seen = new HandRows(MOST_SEEN);
        final HandRows events = new HandRows(MOST_EVENTS);
        final HandRows book = new HandRows(MOST_BOOK);

        void begin(int bells) {
            n = bells;
            changeCount = 0;
            bob = NO_CHANGE;
            single = NO_CHANGE;
            leadCount = 1;
            for (int lead = 0; lead < MOST_LEADS; lead++) {
                leadCalls[lead] = PLAIN;
            }
            for (int place = 0; place < MOST_BELLS; place++) {
                patternBells[place] = 0;
            }
            seen.size = 0;
            events.size = 0;
            book.size = 0;
        }

        void copyFrom(Setup other) {
            n = other.n;
            changeCount = other.changeCount;
            bob = other.bob;
            single = other.single;
            leadCount = other.leadCount;
            System.arraycopy(other.changes, 0, changes, 0, MOST_CHANGES);
            System.arraycopy(other.leadCalls, 0, leadCalls, 0, MOST_LEADS);
            System.arraycopy(other.patternBells, 0, patternBells, 0, MOST_BELLS);
            seen.copyFrom(other.seen);
            events.copyFrom(other.events);
            book.copyFrom(other.book);
        }

        int calledChange(int call) {
            switch (call) {
                case BOB:
                    return bob;
                case SINGLE:
                    return single;
                default:
                    return NO_CHANGE;
            }
        }

        void setCalledChange(int call, int places) {
            if (call == BOB) {
                bob = places;
            } else {
                single = places;
            }
        }

        boolean isMusic(int row, int what) {
            int front = 4 * (n - 4);
            switch (what) {
                case 0:
                    return (row >>> front) == (Row.rounds(n) >>> front);
                case 1:
                    return (row & 0xffff) == Row.rounds(4);
                case 2:
                    return holdsPattern(row);
                default:
                    return Row.isRightAhead(row, n - 1, n);
            }
        }

        private boolean holdsPattern(int row) {
            for (int place = 1; place <= n; place++) {
                int bell = patternBells[place - 1];
                if (bell != 0 && bell != Row.bellIn(row, place)) {
                    return false;
                }
            }
            return true;
        }

        void happen() {
            for (int i = 0; i < events.size; i++) {
                int number = events.second[i];
                switch (events.first[i]) {
                    case 0:
                        leadCalls[number] = PLAIN;
                        break;
                    case 1:
                        leadCalls[number] = BOB;
                        break;
                    case 2:
                        changeCount = Math.max(0, changeCount - number);
                        break;
                    default:
                        leadCount = number;
                        break;
                }
            }
        }
    }

    /** The rows that a set-up gives. */
    private static final class Touch {
        /** No way of changing 8 bells takes longer to come back. */
        private static final int LONGEST_COURSE = 15;

        final int[] rows = new int[MOST_ROW + 1];
        int last = 0;
        int changeCount = 0;
        private final int[] pairs = new int[MOST_CHANGES];
        private final int[] lastPairs = new int[SORTS_OF_CALLS];
        private final int[] firsts = new int[MOST_ROW + 1];
        private final RowTable table = new RowTable();
        private boolean compared = false;

        void ring(Setup setup) {
            begin(setup);
            for (int lead = 0; lead < setup.leadCount; lead++) {
                for (int change = 0; change < changeCount; change++) {
                    step(change, setup.leadCalls[lead]);
                }
            }
        }

        void begin(Setup setup) {
            changeCount = setup.changeCount;
            for (int i = 0; i < changeCount; i++) {
                pairs[i] = Row.pairs(setup.n, setup.changes[i]);
            }
            for (int call = PLAIN; call <= SINGLE && changeCount > 0; call++) {
                int called = setup.calledChange(call);
                lastPairs[call] = called == NO_CHANGE ? pairs[changeCount - 1] : Row.pairs(setup.n, called);
            }
            rows[0] = Row.rounds(setup.n);
            last = 0;
            compared = false;
        }

        /** A further row, by this change of a lead that is called so. */
        void step(int change, int call) {
            if (last < MOST_ROW) {
                int swaps = change == changeCount - 1 ? lastPairs[call] : pairs[change];
                rows[last + 1] = Row.swapped(rows[last], swaps);
                last++;
            }
        }

        int firstAs(int row) {
            compare();
            return firsts[row];
        }

        int roundRow() {
            compare();
            for (int r = 1; r <= last; r++) {
                if (firsts[r] == 0) {
                    return r;
                }
            }
            return NOT_FOUND;
        }

        int falseRow() {
            compare();
            for (int r = 1; r <= last; r++) {
                boolean comesRound = r == last && firsts[r] == 0;
                if (firsts[r] != r && !comesRound) {
                    return r;
                }
            }
            return NOT_FOUND;
        }

        boolean isTrue() {
            return last > 0 && rows[last] == rows[0] && falseRow() == NOT_FOUND;
        }

        int course() {
            int row = rows[0];
            for (int leads = 1; leads <= LONGEST_COURSE && changeCount > 0; leads++) {
                for (int change = 0; change < changeCount; change++) {
                    row = Row.swapped(row, pairs[change]);
                }
                if (row == rows[0]) {
                    return leads;
                }
            }
            return 0;
        }

        private void compare() {
            if (compared) {
                return;
            }
            for (int r = 0; r <= last; r++) {
                firsts[r] = table.enter(rows, r);
            }
            for (int r = last; r >= 0; r--) {
                table.leave(rows, r);
            }
            compared = true;
        }
    }

    /** Which rows there were already, without going through all of them. */
    private static final class RowTable {
        /** More than twice as many as there are rows, so that the ways to a free one stay short. */
        private static final int BITS = 9, LENGTH = 1 << BITS;
        private static final int SPREAD = 0x9e3779b1;

        /** Of a row its number and 1; 0 is free. */
        private final int[] numbers = new int[LENGTH];

        /** The number of the first row that is as this one: its own, if there was none. */
        int enter(int[] rows, int row) {
            int start = start(rows[row]);
            for (int i = 0; i < LENGTH; i++) {
                int slot = (start + i) & (LENGTH - 1);
                int number = numbers[slot] - 1;
                if (number < 0) {
                    numbers[slot] = row + 1;
                    return row;
                }
                if (rows[number] == rows[row]) {
                    return number;
                }
            }
            return row;
        }

        /** Rows leave in turn, the last one first: so none behind a freed slot is lost. */
        void leave(int[] rows, int row) {
            int start = start(rows[row]);
            for (int i = 0; i < LENGTH; i++) {
                int slot = (start + i) & (LENGTH - 1);
                if (numbers[slot] == row + 1) {
                    numbers[slot] = 0;
                    return;
                }
                if (numbers[slot] == 0) {
                    return;
                }
            }
        }

        private static int start(int row) {
            return (row * SPREAD) >>> (32 - BITS);
        }
    }

    /** Looks for the fewest calls by which so many leads are true. */
    private static final class Fewest {
        int number = NOT_FOUND;
        int notPlain = NOT_FOUND;
        private final Touch touch = new Touch();
        private final RowTable table = new RowTable();
        private final boolean[] thereIs = new boolean[SORTS_OF_CALLS];
        private int leadCount = 0;
        private int bound = 0;

        void find(Setup setup, int leads) {
            number = NOT_FOUND;
            notPlain = NOT_FOUND;
            leadCount = leads;
            bound = leads + 1;
            thereIs[PLAIN] = true;
            thereIs[BOB] = setup.bob != NO_CHANGE;
            thereIs[SINGLE] = setup.single != NO_CHANGE;
            touch.begin(setup);
            if (touch.changeCount > 0) {
                table.enter(touch.rows, 0);
                search(this, 0, 0, 0);
                table.leave(touch.rows, 0);
            }
        }

        /**
         * Tries the calls in the order of their numbers. A call that there isn't rings as a plain one
         * does, and counts: so it is never among the fewest.
         */
        private static void search(Fewest sought, int lead, int numberAhead, int notPlainAhead) {
            if (lead >= sought.leadCount) {
                return;
            }
            for (int call = PLAIN; call <= SINGLE; call++) {
                int counted = call == PLAIN ? notPlainAhead : notPlainAhead + 1;
                if (sought.thereIs[call] && counted < sought.bound) {
                    int start = sought.touch.last;
                    int again = sought.ringTillAgain(call);
                    if (again == NOT_FOUND) {
                        search(sought, lead + 1, 3 * numberAhead + call, counted);
                    } else if (sought.isEnd(again)) {
                        sought.number = 3 * numberAhead + call;
                        sought.notPlain = counted;
                        sought.bound = counted;
                    }
                    sought.backTo(start);
                }
            }
        }

        /** Rings a lead, but not on behind a row that was there already: that row's number. */
        private int ringTillAgain(int call) {
            for (int change = 0; change < touch.changeCount; change++) {
                touch.step(change, call);
                if (table.enter(touch.rows, touch.last) != touch.last) {
                    return touch.last;
                }
            }
            return NOT_FOUND;
        }

        private boolean isEnd(int row) {
            return row == leadCount * touch.changeCount && touch.rows[row] == touch.rows[0];
        }

        private void backTo(int row) {
            for (int r = touch.last; r > row; r--) {
                table.leave(touch.rows, r);
            }
            touch.last = row;
        }
    }

    /** The text of a set-up: first all of it is looked at, then its clauses are done. */
    private static final class SetupText {
        private static final int MOST_SIGNS = 100, MOST_CLAUSES = 10, MOST_DIGITS = 8, END = -1;

        int length = 0;
        private final byte[] signs = new byte[MOST_SIGNS];
        private int place = 0;
        private final int[] kinds = new int[MOST_CLAUSES];
        private final int[] starts = new int[MOST_CLAUSES + 1];
        private int clauseCount = 0;
        /** What the clauses tell, a number for each digit, word or letter: none without a sign. */
        private final int[] values = new int[MOST_SIGNS];
        private int valueCount = 0;

        boolean append(int sign) {
            if (length >= MOST_SIGNS) {
                return false;
            }
            signs[length] = (byte) sign;
            length++;
            return true;
        }

        /** The place of the fault, or NOT_FOUND. */
        int parse() {
            place = 0;
            clauseCount = 0;
            valueCount = 0;
            for (int clause = 0; clause < MOST_CLAUSES; clause++) {
                starts[clause] = valueCount;
                kinds[clause] = next();
                if (!parseClause()) {
                    return place;
                }
                clauseCount = clause + 1;
                starts[clauseCount] = valueCount;
                if (next() == END) {
                    return NOT_FOUND;
                }
                if (next() != ';' || clauseCount == MOST_CLAUSES) {
                    return place;
                }
                place++;
            }
            return place;
        }

        private int next() {
            return place < length ? signs[place] : END;
        }

        private boolean parseClause() {
            int kind = next();
            switch (kind) {
                case 'n':
                    place++;
                    return parseDigit();
                case 'm':
                    place++;
                    return parseWords();
                case 'b':
                case 's':
                    place++;
                    return parseWord();
                case 'c':
                    place++;
                    return parseCalls();
                default:
                    return false;
            }
        }

        private boolean parseDigit() {
            int digit = next();
            if (digit < '0' || digit > '9') {
                return false;
            }
            place++;
            keep(digit - '0');
            return true;
        }

        private boolean parseWords() {
            if (!parseWord()) {
                return false;
            }
            for (int words = 1; words < MOST_CHANGES; words++) {
                boolean behindX = signs[place - 1] == 'x';
                if (next() == '.' && !behindX) {
                    place++;
                    if (!isPlaceSign(next())) {
                        return false;
                    }
                } else if (next() != 'x' && !(behindX && isPlaceSign(next()))) {
                    return true;
                }
                parseWord();
            }
            return true;
        }

        private boolean parseWord() {
            if (next() == 'x') {
                place++;
                keep(0);
                return true;
            }
            int places = 0;
            int digits = 0;
            while (digits < MOST_DIGITS && isPlaceSign(next())) {
                places |= 1 << (next() - '1');
                place++;
                digits++;
            }
            if (digits == 0) {
                return false;
            }
            keep(places);
            return true;
        }

        private boolean parseCalls() {
            int letters = 0;
            while (letters < MOST_LEADS && callOf(next()) != NONE) {
                keep(callOf(next()));
                place++;
                letters++;
            }
            return letters > 0;
        }

        private static boolean isPlaceSign(int sign) {
            return sign >= '1' && sign <= '8';
        }

        private static int callOf(int sign) {
            switch (sign) {
                case 'p':
                    return PLAIN;
                case 'b':
                    return BOB;
                case 's':
                    return SINGLE;
                default:
                    return NONE;
            }
        }

        private void keep(int value) {
            if (valueCount < MOST_SIGNS) {
                values[valueCount] = value;
                valueCount++;
            }
        }

        /** Does the clauses of a text without a fault: how many were not refused. */
        int perform(Setup setup) {
            int done = 0;
            for (int clause = 0; clause < clauseCount; clause++) {
                if (performClause(setup, kinds[clause], starts[clause], starts[clause + 1])) {
                    done++;
                }
            }
            return done;
        }

        private boolean performClause(Setup setup, int kind, int from, int to) {
            switch (kind) {
                case 'n':
                    return beginBells(setup, values[from]);
                case 'm':
                    return setMethod(setup, from, to);
                case 'b':
                    return setCall(setup, BOB, values[from]);
                case 's':
                    return setCall(setup, SINGLE, values[from]);
                default:
                    return setLeads(setup, from, to);
            }
        }

        private static boolean beginBells(Setup setup, int n) {
            if (n < LEAST_BELLS || n > MOST_BELLS) {
                return false;
            }
            setup.begin(n);
            return true;
        }

        private boolean setMethod(Setup setup, int from, int to) {
            for (int i = from; i < to; i++) {
                if (!Row.isGood(setup.n, values[i])) {
                    return false;
                }
            }
            setup.changeCount = 0;
            for (int i = from; i < to && setup.changeCount < MOST_CHANGES; i++) {
                setup.changes[setup.changeCount] = values[i];
                setup.changeCount++;
            }
            return true;
        }

        private static boolean setCall(Setup setup, int call, int places) {
            if (!Row.isGood(setup.n, places)) {
                return false;
            }
            setup.setCalledChange(call, places);
            return true;
        }

        private boolean setLeads(Setup setup, int from, int to) {
            setup.leadCount = 0;
            for (int i = from; i < to && setup.leadCount < MOST_LEADS; i++) {
                setup.leadCalls[setup.leadCount] = values[i];
                setup.leadCount++;
            }
            return true;
        }
    }

    /** A row of items of one sort, or nothing. */
    private static final class Tape {
        int sort = EMPTY;
        int length = 0;
        final long[] items = new long[MOST_ITEMS];

        void begin(int newSort, int newLength) {
            sort = newSort;
            length = newLength;
            for (int i = 0; i < MOST_ITEMS; i++) {
                items[i] = 0;
            }
        }

        /** Whether there are n items from i on; asked so that no sum goes beyond an int. */
        boolean has(int i, int n) {
            return i >= 0 && n >= 0 && n <= length && i <= length - n;
        }

        static long narrowed(int sort, long v) {
            switch (sort) {
                case BYTES:
                    return (byte) v;
                case SHORTS:
                    return (short) v;
                case INTS:
                    return (int) v;
                case LONGS:
                    return v;
                default:
                    return v != 0 ? 1 : 0;
            }
        }
    }
}
