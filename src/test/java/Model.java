import java.util.ArrayList;
import java.util.Arrays;
import java.util.List;
import java.util.regex.Matcher;
import java.util.regex.Pattern;

/**
 * The document once more, as slowly and as plainly as can be, with nothing shared with BellTouches:
 * rows are arrays, all is rung anew for each question, texts are looked at by regular expressions.
 */
final class Model {
    private static final long NO = Long.MIN_VALUE;

    /** What an image holds. */
    private static final class State {
        int n = 6;
        List<Integer> method = new ArrayList<>();
        Integer bob = null;
        Integer single = null;
        int[] calls = new int[12];
        int leads = 1;
        int[] pattern = new int[9];
        List<int[]> seen = new ArrayList<>();
        List<int[]> events = new ArrayList<>();
        List<int[]> book = new ArrayList<>();

        State copy() {
            State s = new State();
            s.n = n;
            s.method = new ArrayList<>(method);
            s.bob = bob;
            s.single = single;
            s.calls = calls.clone();
            s.leads = leads;
            s.pattern = pattern.clone();
            s.seen = new ArrayList<>(seen);
            s.events = new ArrayList<>(events);
            s.book = new ArrayList<>(book);
            return s;
        }
    }

    private State s = new State();
    private State image = null;
    private String text = "";
    private final Object[] tapes = new Object[6];

    // ---- rows

    private static boolean isGood(int n, int places) {
        StringBuilder signs = new StringBuilder();
        for (int p = 0; p < n; p++) {
            signs.append((places >> p) % 2 == 1 ? 'k' : 's');
        }
        return signs.toString().matches("(k|ss)*");
    }

    private static int[] by(int[] row, int places) {
        int[] next = row.clone();
        for (int p = 0; p < row.length; p++) {
            if ((places >> p) % 2 == 0) {
                next[p] = row[p + 1];
                next[p + 1] = row[p];
                p++;
            }
        }
        return next;
    }

    private static int[] rounds(int n) {
        int[] row = new int[n];
        for (int p = 0; p < n; p++) {
            row[p] = p + 1;
        }
        return row;
    }

    private static List<int[]> rows(State s) {
        List<int[]> rows = new ArrayList<>();
        int[] row = rounds(s.n);
        rows.add(row);
        for (int lead = 0; lead < s.leads; lead++) {
            for (int c = 0; c < s.method.size(); c++) {
                Integer places = s.method.get(c);
                if (c == s.method.size() - 1) {
                    Integer called = s.calls[lead] == 1 ? s.bob : s.calls[lead] == 2 ? s.single : null;
                    places = called == null ? places : called;
                }
                row = by(row, places);
                rows.add(row);
            }
        }
        return rows;
    }

    private static int sameAs(List<int[]> rows, int r) {
        int k = 0;
        while (!Arrays.equals(rows.get(k), rows.get(r))) {
            k++;
        }
        return k;
    }

    private static int round(List<int[]> rows) {
        for (int r = 1; r < rows.size(); r++) {
            if (Arrays.equals(rows.get(r), rows.get(0))) {
                return r;
            }
        }
        return -5;
    }

    private static int falseRow(List<int[]> rows) {
        for (int r = 1; r < rows.size(); r++) {
            for (int k = 0; k < r; k++) {
                if (Arrays.equals(rows.get(r), rows.get(k)) && !(k == 0 && r == rows.size() - 1)) {
                    return r;
                }
            }
        }
        return -5;
    }

    private static boolean isTrue(List<int[]> rows) {
        int last = rows.size() - 1;
        return last != 0 && Arrays.equals(rows.get(last), rows.get(0)) && falseRow(rows) == -5;
    }

    private static int course(State s) {
        if (s.method.isEmpty()) {
            return 0;
        }
        State plain = s.copy();
        plain.calls = new int[12];
        plain.leads = 1;
        int[] end = rows(plain).get(s.method.size());
        int[] at = end;
        for (int leads = 1;; leads++) {
            if (Arrays.equals(at, rounds(s.n))) {
                return leads;
            }
            int[] next = new int[s.n];
            for (int p = 0; p < s.n; p++) {
                next[p] = at[end[p] - 1];
            }
            at = next;
        }
    }

    private static int placeOf(int[] row, int bell) {
        for (int p = 0; p < row.length; p++) {
            if (row[p] == bell) {
                return p + 1;
            }
        }
        return 99;
    }

    private static boolean isMusic(State s, int[] row, int what) {
        StringBuilder bells = new StringBuilder();
        for (int bell : row) {
            bells.append(bell);
        }
        String all = "12345678".substring(0, s.n);
        switch (what) {
            case 0:
                return bells.toString().endsWith(all.substring(s.n - 4));
            case 1:
                return bells.toString().startsWith("1234");
            case 2:
                for (int p = 1; p <= s.n; p++) {
                    if (s.pattern[p] != 0 && s.pattern[p] != row[p - 1]) {
                        return false;
                    }
                }
                return true;
            default:
                return bells.toString().contains(all.substring(s.n - 2));
        }
    }

    private int countMusic(int what) {
        int count = 0;
        List<int[]> rows = rows(s);
        for (int r = 1; r < rows.size(); r++) {
            count += isMusic(s, rows.get(r), what) ? 1 : 0;
        }
        return count;
    }

    // ---- the calls

    private boolean in(int number, int least, int most) {
        return number >= least && number <= most;
    }

    int bells(int n) {
        if (!in(n, 4, 8)) {
            return -2;
        }
        int was = s.n;
        s = new State();
        s.n = n;
        return was;
    }

    private int all() {
        return (int) Math.pow(2, s.n) - 1;
    }

    int change(int places) {
        if (!in(places, 0, all())) {
            return -2;
        }
        if (!isGood(s.n, places)) {
            return -3;
        }
        if (s.method.size() == 16) {
            return -4;
        }
        s.method.add(places);
        return s.method.size();
    }

    int calls(int what, int places) {
        if (!in(what, 1, 2)) {
            return -1;
        }
        if (!in(places, -1, all())) {
            return -2;
        }
        if (places >= 0 && !isGood(s.n, places)) {
            return -3;
        }
        Integer was = what == 1 ? s.bob : s.single;
        Integer now = places < 0 ? null : (Integer) places;
        if (what == 1) {
            s.bob = now;
        } else {
            s.single = now;
        }
        return was == null ? 0 : 1;
    }

    int call(int lead, int call) {
        if (!in(lead, 0, 11)) {
            return -1;
        }
        if (!in(call, 0, 2)) {
            return -2;
        }
        int was = s.calls[lead];
        s.calls[lead] = call;
        return was;
    }

    int leads(int n) {
        if (!in(n, 1, 12)) {
            return -2;
        }
        int was = s.leads;
        s.leads = n;
        return was;
    }

    int pattern(int place, int bell) {
        if (!in(place, 1, 8)) {
            return -1;
        }
        if (!in(bell, 0, 8)) {
            return -2;
        }
        int was = s.pattern[place];
        s.pattern[place] = bell;
        return was;
    }

    int feed(int sign) {
        if (!in(sign, 0, 127)) {
            return -2;
        }
        if (text.length() == 100) {
            return -4;
        }
        text += (char) sign;
        return text.length();
    }

    private static final String WORD = "(?:x|[1-8]{1,8})";
    private static final String WORDS = WORD + "(?:(?:(?<=[1-8])\\.(?=[1-8])|(?<=x)|(?<=[1-8])(?=x))" + WORD + "){0,15}";
    private static final String CLAUSE = "(?:n[0-9]|m" + WORDS + "|[bs]" + WORD + "|c[pbs]{1,12})";
    private static final Pattern SETUP = Pattern.compile(CLAUSE + "(?:;" + CLAUSE + "){0,9}");

    private static boolean beginsSo(String text) {
        Matcher matcher = SETUP.matcher(text);
        return matcher.matches() || matcher.hitEnd();
    }

    int read() {
        String read = text;
        text = "";
        if (SETUP.matcher(read).matches()) {
            int done = 0;
            for (String clause : read.split(";")) {
                done += isDone(clause) ? 1 : 0;
            }
            return done;
        }
        int fault = 0;
        while (fault < read.length() && beginsSo(read.substring(0, fault + 1))) {
            fault++;
        }
        return -10 - fault;
    }

    private boolean isDone(String clause) {
        String rest = clause.substring(1);
        List<Integer> changes = new ArrayList<>();
        Matcher words = Pattern.compile("x|[1-8]+").matcher(rest);
        boolean good = true;
        while (words.find()) {
            int places = 0;
            for (char digit : words.group().replace("x", "").toCharArray()) {
                places |= (int) Math.pow(2, digit - '1');
            }
            good &= places <= all() && isGood(s.n, places);
            changes.add(places);
        }
        switch (clause.charAt(0)) {
            case 'n':
                return bells(Integer.parseInt(rest)) >= 0;
            case 'm':
                s.method = good ? changes : s.method;
                return good;
            case 'b':
                return good && calls(1, changes.get(0)) >= 0;
            case 's':
                return good && calls(2, changes.get(0)) >= 0;
            default:
                s.leads = rest.length();
                for (int i = 0; i < rest.length(); i++) {
                    s.calls[i] = "pbs".indexOf(rest.charAt(i));
                }
                return true;
        }
    }

    int of(int side, int k) {
        if (side == 0) {
            return in(k, 0, s.method.size() - 1) ? s.method.get(k) : -1;
        }
        if (side == 1 || side == 2) {
            Integer places = side == 1 ? s.bob : s.single;
            return places == null ? -5 : places;
        }
        return side == 3 && in(k, 0, 11) ? s.calls[k] : -1;
    }

    int told(int what) {
        List<int[]> rows = rows(s);
        switch (what) {
            case 0:
                return s.n;
            case 1:
                return s.method.size();
            case 2:
                return s.leads;
            case 3:
                return rows.size() - 1;
            case 4:
                return round(rows);
            case 5:
                return falseRow(rows);
            case 6:
                return isTrue(rows) ? 1 : 0;
            case 7:
                return course(s);
            default:
                return -1;
        }
    }

    int at(int row, int place) {
        List<int[]> rows = rows(s);
        return in(row, 0, rows.size() - 1) && in(place, 1, s.n) ? rows.get(row)[place - 1] : -1;
    }

    int where(int row, int bell) {
        List<int[]> rows = rows(s);
        return in(row, 0, rows.size() - 1) && in(bell, 1, s.n) ? placeOf(rows.get(row), bell) : -1;
    }

    int same(int row) {
        List<int[]> rows = rows(s);
        return in(row, 0, rows.size() - 1) ? sameAs(rows, row) : -1;
    }

    int good(int places) {
        return !in(places, 0, all()) ? -2 : isGood(s.n, places) ? 1 : 0;
    }

    int music(int what) {
        return in(what, 0, 3) ? countMusic(what) : -1;
    }

    int least(int leads, int what) {
        if (!in(leads, 1, 5)) {
            return -2;
        }
        if (!in(what, 0, 1)) {
            return -1;
        }
        int best = -5;
        int fewest = -5;
        State tried = s.copy();
        tried.leads = leads;
        for (int number = 0; number < Math.pow(3, leads); number++) {
            int notPlain = 0;
            for (int lead = leads - 1, rest = number; lead >= 0; lead--, rest /= 3) {
                tried.calls[lead] = rest % 3;
                notPlain += rest % 3 == 0 ? 0 : 1;
            }
            if ((fewest == -5 || notPlain < fewest) && isTrue(rows(tried))) {
                best = number;
                fewest = notPlain;
            }
        }
        return what == 0 ? best : fewest;
    }

    int still(int bell) {
        if (!in(bell, 1, s.n)) {
            return -1;
        }
        List<int[]> rows = rows(s);
        int count = 0;
        for (int r = 1; r < rows.size(); r++) {
            count += placeOf(rows.get(r), bell) == placeOf(rows.get(r - 1), bell) ? 1 : 0;
        }
        return count;
    }

    int ahead(int one, int other) {
        if (!in(one, 1, s.n) || !in(other, 1, s.n) || one == other) {
            return -1;
        }
        int count = 0;
        for (int[] row : rows(s)) {
            for (int p = 0; p + 1 < row.length; p++) {
                count += row[p] == one && row[p + 1] == other ? 1 : 0;
            }
        }
        return count;
    }

    int see(int row, int place, int bell) {
        if (row == -1) {
            s.seen.clear();
            return 0;
        }
        if (!in(row, 0, 192) || !in(place, 1, s.n) || !in(bell, 1, s.n)) {
            return -1;
        }
        if (s.seen.size() == 5) {
            return -4;
        }
        s.seen.add(new int[] {row, place, bell});
        return s.seen.size();
    }

    int fits(int what) {
        if (!in(what, 0, 1)) {
            return -1;
        }
        int count = 0;
        int least = -5;
        for (int places = all(); places >= 0 && !s.method.isEmpty(); places--) {
            if (isGood(s.n, places)) {
                State tried = s.copy();
                tried.method.set(tried.method.size() - 1, places);
                List<int[]> rows = rows(tried);
                boolean so = true;
                for (int[] seen : s.seen) {
                    so &= seen[0] >= rows.size() || rows.get(seen[0])[seen[1] - 1] == seen[2];
                }
                count += so ? 1 : 0;
                least = so ? places : least;
            }
        }
        return what == 0 ? count : least;
    }

    private static long fraction(int above, int below, int part) {
        int a = above;
        int b = below;
        while (b != 0) {
            int rest = a % b;
            a = b;
            b = rest;
        }
        return part == 0 ? above / a : below / a;
    }

    long odds(int bell, int place, int part) {
        if (!in(bell, 1, s.n) || !in(place, 1, s.n) || !in(part, 0, 1)) {
            return NO;
        }
        int count = 0;
        for (int[] row : rows(s)) {
            count += row[place - 1] == bell ? 1 : 0;
        }
        return fraction(count, rows(s).size(), part);
    }

    long mean(int part) {
        if (!in(part, 0, 1)) {
            return NO;
        }
        int total = countMusic(0) + countMusic(1) + countMusic(2) + countMusic(3);
        return fraction(total, rows(s).size(), part);
    }

    int event(int what, int n) {
        if (what == -1) {
            s.events.clear();
            return 0;
        }
        if (!in(what, 0, 3) || what < 2 && !in(n, 0, 11)) {
            return -1;
        }
        if (what == 2 && !in(n, 0, 16) || what == 3 && !in(n, 1, 12)) {
            return -2;
        }
        if (s.events.size() == 8) {
            return -4;
        }
        s.events.add(new int[] {what, n});
        return s.events.size();
    }

    int after(int what) {
        if (!in(what, 0, 2)) {
            return -1;
        }
        State then = s.copy();
        for (int[] event : s.events) {
            if (event[0] < 2) {
                then.calls[event[1]] = event[0];
            } else if (event[0] == 2) {
                for (int i = 0; i < event[1] && !then.method.isEmpty(); i++) {
                    then.method.remove(then.method.size() - 1);
                }
            } else {
                then.leads = event[1];
            }
        }
        List<int[]> rows = rows(then);
        return what == 0 ? round(rows) : what == 1 ? falseRow(rows) : isTrue(rows) ? 1 : 0;
    }

    int book(int row, int bell) {
        if (row == -1) {
            s.book.clear();
            return 0;
        }
        if (!in(row, 0, 192) || !in(bell, 1, s.n)) {
            return -1;
        }
        if (s.book.size() == 8) {
            return -4;
        }
        s.book.add(new int[] {row, bell});
        return s.book.size();
    }

    int looked() {
        List<int[]> rows = rows(s);
        for (int i = 0; i < s.book.size(); i++) {
            int[] told = s.book.get(i);
            if (told[0] >= rows.size() || rows.get(told[0])[0] != told[1]) {
                return i;
            }
        }
        return -5;
    }

    int judge(int row, int tape, int i) {
        List<int[]> rows = rows(s);
        if (!in(row, 0, rows.size() - 1) || !in(tape, 0, 5)) {
            return -1;
        }
        if (tapes[tape] == null) {
            return 100;
        }
        if (!(tapes[tape] instanceof byte[])) {
            return -12;
        }
        byte[] bytes = (byte[]) tapes[tape];
        for (int p = 0; p < s.n; p++) {
            if (i < 0 || i >= bytes.length - p) {
                return 100 + p;
            }
            if (bytes[i + p] != rows.get(row)[p]) {
                return p + 1;
            }
        }
        return -5;
    }

    int image() {
        image = s.copy();
        return s.method.size();
    }

    int undo() {
        if (image == null) {
            return -3;
        }
        s = image.copy();
        return s.method.size();
    }

    int count(int what) {
        int[] counts = {s.seen.size(), s.events.size(), s.book.size(), text.length()};
        return in(what, 0, 3) ? counts[what] : -2;
    }

    int tape(int tape, int sort, int n) {
        if (!in(tape, 0, 5)) {
            return -1;
        }
        if (!in(sort, -1, 4) || sort != -1 && n > 60) {
            return -2;
        }
        if (sort != -1 && n < 0) {
            return -14;
        }
        switch (sort) {
            case 0:
                tapes[tape] = new byte[n];
                break;
            case 1:
                tapes[tape] = new short[n];
                break;
            case 2:
                tapes[tape] = new int[n];
                break;
            case 3:
                tapes[tape] = new long[n];
                break;
            case 4:
                tapes[tape] = new boolean[n];
                break;
            default:
                tapes[tape] = null;
        }
        return 1;
    }

    int item(int tape, int i, long v) {
        if (!in(tape, 0, 5)) {
            return -1;
        }
        Object row = tapes[tape];
        if (row == null) {
            return -11;
        }
        if (!in(i, 0, java.lang.reflect.Array.getLength(row) - 1)) {
            return -13;
        }
        if (row instanceof byte[]) {
            ((byte[]) row)[i] = (byte) v;
        } else if (row instanceof short[]) {
            ((short[]) row)[i] = (short) v;
        } else if (row instanceof int[]) {
            ((int[]) row)[i] = (int) v;
        } else if (row instanceof long[]) {
            ((long[]) row)[i] = v;
        } else {
            ((boolean[]) row)[i] = v != 0;
        }
        return 1;
    }

    long peek(int tape, int i) {
        if (!in(tape, 0, 5) || tapes[tape] == null
                || !in(i, 0, java.lang.reflect.Array.getLength(tapes[tape]) - 1)) {
            return NO;
        }
        if (tapes[tape] instanceof boolean[]) {
            return ((boolean[]) tapes[tape])[i] ? 1 : 0;
        }
        return java.lang.reflect.Array.getLong(tapes[tape], i);
    }

    int shift(int tape, int i, int other, int j, int n) {
        if (!in(tape, 0, 5) || !in(other, 0, 5)) {
            return -1;
        }
        if (tapes[tape] == null || tapes[other] == null) {
            return -11;
        }
        if (tapes[tape].getClass() != tapes[other].getClass()) {
            return -12;
        }
        long firstEnd = java.lang.reflect.Array.getLength(tapes[tape]);
        long secondEnd = java.lang.reflect.Array.getLength(tapes[other]);
        if (n < 0 || i < 0 || j < 0 || (long) i + n > firstEnd || (long) j + n > secondEnd) {
            return -13;
        }
        System.arraycopy(tapes[tape], i, tapes[other], j, n);
        return n;
    }
}
