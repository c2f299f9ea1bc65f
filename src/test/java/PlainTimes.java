import java.util.ArrayList;
import java.util.List;

/**
 * The document told again as plainly as can be: every position and every tick is looked at, and a
 * saved state is a full copy. ModelTest compares SegmentTimes with it.
 */
final class PlainTimes {
    private static final int MOST_TICK = 16384;

    private static final class Whole {
        int now = 0;
        List<int[]> segments = new ArrayList<>();
        List<int[]> queries = new ArrayList<>();
        List<long[]> answers = new ArrayList<>();
        List<Whole> marks = new ArrayList<>();

        Whole copy() {
            Whole copy = new Whole();
            copy.now = now;
            for (int[] s : segments) {
                copy.segments.add(s.clone());
            }
            for (int[] q : queries) {
                copy.queries.add(q.clone());
            }
            for (long[] a : answers) {
                copy.answers.add(a == null ? null : a.clone());
            }
            copy.marks.addAll(marks);
            return copy;
        }
    }

    private Whole whole = new Whole();
    private final List<Whole> saved = new ArrayList<>();
    private String text = "";

    private void save() {
        saved.add(whole.copy());
        if (saved.size() > 4) {
            saved.remove(0);
        }
    }

    private static void argument(boolean fine) {
        if (!fine) {
            throw new IllegalArgumentException();
        }
    }

    private static void state(boolean fine) {
        if (!fine) {
            throw new IllegalStateException();
        }
    }

    private static void index(int value, int size) {
        if (value < 0 || value >= size) {
            throw new IndexOutOfBoundsException();
        }
    }

    private static boolean in(long value, long low, long high) {
        return value >= low && value <= high;
    }

    private static void range(long low, long high, long most) {
        argument(in(low, 0, high) && in(high, low, most));
    }

    private static void place(int x, int t) {
        argument(in(x, 0, 255) && in(t, 0, MOST_TICK));
    }

    private int put(int... values) {
        save();
        whole.segments.add(values);
        return whole.segments.size() - 1;
    }

    int add(int a, int b, int x1, int x2) {
        argument(in(a, -1000, 1000) && in(b, -1000000, 1000000));
        range(x1, x2, 255);
        state(whole.segments.size() < 40);
        return put(a, b, x1, x2, whole.now, MOST_TICK);
    }

    int addThrough(int x1, int y1, int x2, int y2, int t1, int t2) {
        range(x1, x2, 255);
        range(t1, t2, MOST_TICK);
        argument(in(y1, -1000000, 1000000) && in(y2, -1000000, 1000000));
        int slope = 5000;
        for (int a = -1000; a <= 1000; a++) {
            if ((long) a * (x2 - x1) == (long) y2 - y1 && (x1 != x2 || a == 0)) {
                slope = a;
            }
        }
        argument(slope != 5000);
        long offset = (long) y1 - (long) slope * x1;
        argument(in(offset, -1000000, 1000000));
        state(whole.segments.size() < 40);
        return put(slope, (int) offset, x1, x2, t1, t2);
    }

    private boolean live(int segment, int t) {
        int[] s = whole.segments.get(segment);
        return s[4] <= t && t < s[5];
    }

    int end(int segment) {
        index(segment, whole.segments.size());
        state(live(segment, whole.now));
        save();
        whole.segments.get(segment)[5] = whole.now;
        return whole.now - whole.segments.get(segment)[4];
    }

    int lift(int segment, int difference) {
        index(segment, whole.segments.size());
        int[] s = whole.segments.get(segment);
        argument(in(difference, -1000000, 1000000) && in((long) s[1] + difference, -1000000, 1000000));
        state(live(segment, whole.now) && whole.segments.size() < 40);
        int number = put(s[0], s[1] + difference, s[2], s[3], whole.now, s[5]);
        s[5] = whole.now;
        return number;
    }

    int pass(int ticks) {
        argument(in(ticks, 0, 1000));
        state(whole.now + ticks <= 16383);
        save();
        whole.now += ticks;
        return whole.now;
    }

    int now() {
        return whole.now;
    }

    int segments() {
        return whole.segments.size();
    }

    int segment(int segment, int what) {
        index(segment, whole.segments.size());
        argument(in(what, 0, 5));
        return whole.segments.get(segment)[what];
    }

    private long value(int segment, int x) {
        int[] s = whole.segments.get(segment);
        return (long) s[0] * x + s[1];
    }

    private List<Integer> ranking(int x, int t) {
        List<Integer> there = new ArrayList<>();
        for (int i = 0; i < whole.segments.size(); i++) {
            int[] s = whole.segments.get(i);
            if (live(i, t) && s[2] <= x && x <= s[3]) {
                there.add(i);
            }
        }
        // sorting a list is stable, so equal values stay by their numbers
        there.sort((one, other) -> Long.compare(value(one, x), value(other, x)));
        return there;
    }

    private int first(int x, int t) {
        List<Integer> ranking = ranking(x, t);
        return ranking.isEmpty() ? -1 : ranking.get(0);
    }

    private long least(int x, int t) {
        int first = first(x, t);
        return first == -1 ? Long.MAX_VALUE : value(first, x);
    }

    long minimum(int x, int t) {
        place(x, t);
        return least(x, t);
    }

    int ranked(int x, int t, int place) {
        place(x, t);
        argument(place >= 0);
        List<Integer> ranking = ranking(x, t);
        return place < ranking.size() ? ranking.get(place) : -1;
    }

    int below(int x, int t, long limit) {
        place(x, t);
        int count = 0;
        for (int segment : ranking(x, t)) {
            count += value(segment, x) < limit ? 1 : 0;
        }
        return count;
    }

    int overtakes(int first, int second) {
        index(first, whole.segments.size());
        index(second, whole.segments.size());
        int[] one = whole.segments.get(first);
        int[] other = whole.segments.get(second);
        for (int x = 0; x <= 255; x++) {
            if (x >= one[2] && x <= one[3] && x >= other[2] && x <= other[3] && value(second, x) < value(first, x)) {
                return x;
            }
        }
        return -1;
    }

    private List<int[]> envelope(int t) {
        argument(in(t, 0, MOST_TICK));
        List<int[]> pieces = new ArrayList<>();
        for (int x = 0; x <= 255; x++) {
            int first = first(x, t);
            if (!pieces.isEmpty() && pieces.get(pieces.size() - 1)[2] == first) {
                pieces.get(pieces.size() - 1)[1] = x;
            } else {
                pieces.add(new int[] {x, x, first});
            }
        }
        return pieces;
    }

    int pieces(int t) {
        return envelope(t).size();
    }

    int piece(int t, int piece, int what) {
        argument(in(what, 0, 2));
        List<int[]> pieces = envelope(t);
        index(piece, pieces.size());
        return pieces.get(piece)[what];
    }

    long sum(int t, int x1, int x2) {
        argument(in(t, 0, MOST_TICK));
        range(x1, x2, 255);
        long sum = 0;
        for (int x = x1; x <= x2; x++) {
            sum += first(x, t) == -1 ? 0 : least(x, t);
        }
        return sum;
    }

    int visible(int segment, int t) {
        index(segment, whole.segments.size());
        argument(in(t, 0, MOST_TICK));
        int count = 0;
        for (int x = 0; x <= 255; x++) {
            count += first(x, t) == segment ? 1 : 0;
        }
        return count;
    }

    int hidden(int t) {
        argument(in(t, 0, MOST_TICK));
        int count = 0;
        for (int i = 0; i < whole.segments.size(); i++) {
            count += live(i, t) && visible(i, t) == 0 ? 1 : 0;
        }
        return count;
    }

    int extreme(int t, boolean greatest) {
        argument(in(t, 0, MOST_TICK));
        int best = -1;
        for (int x = 0; x <= 255; x++) {
            if (first(x, t) != -1 && (best == -1
                    || (greatest ? least(x, t) > least(best, t) : least(x, t) < least(best, t)))) {
                best = x;
            }
        }
        return best;
    }

    int changes(int x, int from, int to) {
        argument(in(x, 0, 255));
        range(from, to, MOST_TICK);
        int count = 0;
        for (int t = from + 1; t <= to; t++) {
            count += first(x, t) != first(x, t - 1) ? 1 : 0;
        }
        return count;
    }

    int nextChange(int x, int t) {
        place(x, t);
        for (int u = t + 1; u <= MOST_TICK; u++) {
            if (first(x, u) != first(x, u - 1)) {
                return u;
            }
        }
        return -1;
    }

    long overTime(int x, int from, int to, boolean greatest) {
        argument(in(x, 0, 255));
        range(from, to, MOST_TICK);
        long best = Long.MAX_VALUE;
        for (int t = from; t <= to; t++) {
            long least = least(x, t);
            if (least != Long.MAX_VALUE
                    && (best == Long.MAX_VALUE || (greatest ? least > best : least < best))) {
                best = least;
            }
        }
        return best;
    }

    int leads(int segment, int x) {
        index(segment, whole.segments.size());
        argument(in(x, 0, 255));
        int count = 0;
        for (int t = 0; t <= MOST_TICK; t++) {
            count += first(x, t) == segment ? 1 : 0;
        }
        return count;
    }

    /** All dyadic intervals within the life that lie in no larger one within it. */
    private List<int[]> division(int segment) {
        int[] s = whole.segments.get(segment);
        List<int[]> found = new ArrayList<>();
        int t = s[4];
        while (t < s[5]) {
            int best = 0;
            for (int j = 0; j <= 14; j++) {
                int length = 1 << j;
                int start = t / length * length;
                if (start >= s[4] && start + length <= s[5]) {
                    best = length;
                }
            }
            found.add(new int[] {t, best});
            t += best;
        }
        return found;
    }

    int intervals(int segment) {
        index(segment, whole.segments.size());
        return division(segment).size();
    }

    int interval(int segment, int interval, boolean length) {
        index(segment, whole.segments.size());
        List<int[]> division = division(segment);
        index(interval, division.size());
        return division.get(interval)[length ? 1 : 0];
    }

    int holders(int start, int length) {
        boolean dyadic = false;
        for (int j = 0; j <= 14; j++) {
            dyadic |= length == 1 << j && start >= 0 && start % length == 0 && (long) start + length <= MOST_TICK;
        }
        argument(dyadic);
        int count = 0;
        for (int i = 0; i < whole.segments.size(); i++) {
            for (int[] interval : division(i)) {
                count += interval[0] == start && interval[1] == length ? 1 : 0;
            }
        }
        return count;
    }

    int collect(int x, int t) {
        place(x, t);
        state(whole.queries.size() < 30);
        save();
        whole.queries.add(new int[] {x, t});
        whole.answers.add(null);
        return whole.queries.size() - 1;
    }

    int solve() {
        save();
        int found = 0;
        for (int i = 0; i < whole.queries.size(); i++) {
            int x = whole.queries.get(i)[0];
            int t = whole.queries.get(i)[1];
            List<Integer> ranking = ranking(x, t);
            found += ranking.isEmpty() ? 0 : 1;
            whole.answers.set(i, new long[] {least(x, t), first(x, t), ranking.size()});
        }
        return found;
    }

    long answer(int query, int what) {
        index(query, whole.queries.size());
        argument(in(what, 0, 2));
        state(whole.answers.get(query) != null);
        return whole.answers.get(query)[what];
    }

    int forget() {
        save();
        int had = whole.queries.size();
        whole.queries.clear();
        whole.answers.clear();
        return had;
    }

    int mark() {
        state(whole.marks.size() < 5);
        save();
        whole.marks.add(whole.copy());
        return whole.marks.size();
    }

    int rollBack() {
        state(!whole.marks.isEmpty());
        save();
        Whole mark = whole.marks.remove(whole.marks.size() - 1).copy();
        whole.now = mark.now;
        whole.segments = mark.segments;
        return whole.marks.size();
    }

    int append(int value) {
        argument(in(value, 0, 127));
        state(text.length() < 120);
        text += (char) value;
        return text.length();
    }

    int clearText() {
        int had = text.length();
        text = "";
        return had;
    }

    /** Whether a text is the beginning of a right one: then it can be filled up with one of a few tails. */
    private static boolean canGoOn(String start) {
        String number = " -?[0-9]{1,7}";
        String right = "(a(" + number + "){4};|[et]" + number + ";|[mq](" + number + "){2};|s;)*";
        String[] tails = {"", ";", "0", " 0", "0;", " 0;"};
        StringBuilder more = new StringBuilder();
        for (int i = 0; i <= 4; i++) {
            for (String tail : tails) {
                if ((start + tail + more + ";").matches(right) || (start + tail + more).matches(right)) {
                    return true;
                }
            }
            more.append(" 0");
        }
        return false;
    }

    int carryOut() {
        for (int i = 0; i < text.length(); i++) {
            if (!canGoOn(text.substring(0, i + 1))) {
                return -10 - i;
            }
        }
        if (!text.isEmpty() && !text.endsWith(";")) {
            return -10 - text.length();
        }
        Whole before = whole.copy();
        List<Whole> savedBefore = new ArrayList<>(saved);
        String[] commands = text.isEmpty() ? new String[0] : text.split(";");
        for (int i = 0; i < commands.length; i++) {
            try {
                carryOut(commands[i].split(" "));
            } catch (RuntimeException e) {
                whole = before;
                saved.clear();
                saved.addAll(savedBefore);
                return -1000 - i;
            }
        }
        Whole after = whole;
        whole = before;
        saved.clear();
        saved.addAll(savedBefore);
        save();
        whole = after;
        return commands.length;
    }

    private void carryOut(String[] words) {
        int[] n = new int[words.length - 1];
        for (int i = 0; i < n.length; i++) {
            n[i] = Integer.parseInt(words[i + 1]);
        }
        switch (words[0]) {
            case "a": add(n[0], n[1], n[2], n[3]); break;
            case "e": end(n[0]); break;
            case "t": pass(n[0]); break;
            case "m": lift(n[0], n[1]); break;
            case "q": collect(n[0], n[1]); break;
            default: solve(); break;
        }
    }

    int undo() {
        state(!saved.isEmpty());
        whole = saved.remove(saved.size() - 1);
        return saved.size();
    }

    long digest() {
        List<Long> values = new ArrayList<>();
        values.add((long) text.length());
        values.add((long) whole.now);
        values.add((long) whole.segments.size());
        for (int[] s : whole.segments) {
            for (int v : s) {
                values.add((long) v);
            }
        }
        values.add((long) whole.queries.size());
        for (int i = 0; i < whole.queries.size(); i++) {
            values.add((long) whole.queries.get(i)[0]);
            values.add((long) whole.queries.get(i)[1]);
            values.add(whole.answers.get(i) == null ? 0L : 1L);
            for (int what = 0; whole.answers.get(i) != null && what < 3; what++) {
                values.add(whole.answers.get(i)[what]);
            }
        }
        values.add((long) whole.marks.size());
        List<int[]> pieces = envelope(whole.now);
        values.add((long) pieces.size());
        for (int[] piece : pieces) {
            for (int v : piece) {
                values.add((long) v);
            }
        }
        values.add(sum(whole.now, 0, 255));
        values.add((long) saved.size());
        long h = 2927;
        for (long v : values) {
            h = 31 * h + v;
        }
        return h;
    }
}
