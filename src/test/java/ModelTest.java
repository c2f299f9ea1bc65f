import java.util.Random;

/** Long mixed runs of calls, each answer and digest compared with those of PlainTimes. */
public final class ModelTest {
    private static final int RUNS = 300;
    private static final int CALLS = 512;
    private static final int SLOW = 12;
    private static final int CHANGES = 45;

    private interface Call {
        long run(SegmentTimes x);
    }

    private interface PlainCall {
        long run(PlainTimes x);
    }

    private final Random random;
    private final SegmentTimes x = new SegmentTimes();
    private final PlainTimes plain = new PlainTimes();
    private final String run;
    // how wild the arguments are: small values meet each other often, great ones reach the limits
    private final int reach;
    // a script takes many calls, so most runs hold few of them
    private final int scripts;
    private int calls = 0;

    private ModelTest(int seed) {
        random = new Random(seed);
        run = "run " + seed + " ";
        int[] reaches = {3, 20, 255, 1000, 16384};
        reach = reaches[seed % reaches.length];
        scripts = seed % 3 == 0 ? 20 : 1;
    }

    public static void main(String[] args) {
        for (int seed = 0; seed < RUNS; seed++) {
            ModelTest test = new ModelTest(seed);
            while (test.calls < CALLS) {
                test.step();
            }
        }
        Due.finish();
    }

    private void step() {
        int kind = random.nextInt(100);
        if (kind < CHANGES + scripts) {
            if (kind < CHANGES) {
                change(random.nextInt(12));
            } else {
                script();
            }
            both("digest()", s -> s.digest(), p -> p.digest());
        } else if (kind < 100 - SLOW) {
            ask(random.nextInt(16));
        } else {
            askOverTime(random.nextInt(4));
        }
    }

    private int upTo(int most) {
        if (random.nextInt(40) == 0) {
            int[] odd = {-1, most + 1, Integer.MAX_VALUE, Integer.MIN_VALUE};
            return odd[random.nextInt(odd.length)];
        }
        return random.nextInt(Math.min(most, Math.max(1, reach)) + 1);
    }

    private int signed(int most) {
        if (random.nextInt(40) == 0) {
            int[] odd = {-most - 1, most + 1, -most, most, Integer.MAX_VALUE, Integer.MIN_VALUE};
            return odd[random.nextInt(odd.length)];
        }
        int bound = Math.min(most, reach > 255 ? most : reach * 3);
        return random.nextInt(2 * bound + 1) - bound;
    }

    private int position() {
        return random.nextInt(3) == 0 && reach < 255 ? 255 - upTo(255) : upTo(255);
    }

    private int tick() {
        return random.nextInt(8) == 0 ? 16384 - upTo(16384) : upTo(16384);
    }

    private int number() {
        int size = plain.segments();
        return size == 0 || random.nextInt(20) == 0 ? upTo(40) : random.nextInt(size);
    }

    private void change(int kind) {
        int a = signed(1000);
        int b = signed(1000000);
        int x1 = position();
        int x2 = position();
        int t1 = tick();
        int t2 = tick();
        int left = random.nextInt(10) == 0 ? x1 : Math.min(x1, x2);
        int right = random.nextInt(10) == 0 ? x2 : Math.max(x1, x2);
        int s = number();
        switch (kind) {
            case 0: case 1: case 2:
                both("add", y -> y.add(a, b, left, right), p -> p.add(a, b, left, right));
                break;
            case 3: case 4: case 5:
                through(left, b, right, Math.min(t1, t2), Math.max(t1, t2), a);
                break;
            case 6:
                both("end " + s, y -> y.end(s), p -> p.end(s));
                break;
            case 7:
                both("lift " + s + " " + b, y -> y.lift(s, b), p -> p.lift(s, b));
                break;
            case 8:
                int ticks = upTo(1000);
                both("pass " + ticks, y -> y.pass(ticks), p -> p.pass(ticks));
                break;
            default:
                rest(kind, x1, t1);
                break;
        }
    }

    private void through(int x1, int y1, int x2, int t1, int t2, int slope) {
        int y2 = y1 + slope * (x2 - x1) + (random.nextInt(6) == 0 ? 1 : 0);
        both("addThrough " + x1 + " " + y1 + " " + x2 + " " + y2 + " " + t1 + " " + t2,
                y -> y.addThrough(x1, y1, x2, y2, t1, t2), p -> p.addThrough(x1, y1, x2, y2, t1, t2));
    }

    private void rest(int kind, int position, int t) {
        switch (kind) {
            case 9:
                both("collect", y -> y.collect(position, t), p -> p.collect(position, t));
                break;
            case 10:
                if (random.nextInt(4) == 0) {
                    both("forget", y -> y.forget(), p -> p.forget());
                } else {
                    both("solve", y -> y.solve(), p -> p.solve());
                }
                break;
            default:
                int which = random.nextInt(4);
                if (which == 0) {
                    both("mark", y -> y.mark(), p -> p.mark());
                } else if (which == 1) {
                    both("rollBack", y -> y.rollBack(), p -> p.rollBack());
                } else {
                    both("undo", y -> y.undo(), p -> p.undo());
                }
                break;
        }
    }

    /** A script is put down at once, so that a run holds many of them. */
    private void script() {
        StringBuilder text = new StringBuilder();
        int commands = random.nextInt(5);
        for (int i = 0; i < commands; i++) {
            text.append(command());
        }
        if (text.length() > 0 && random.nextInt(3) == 0) {
            int at = random.nextInt(text.length());
            String signs = "aetmqs;- 0195x\0\n";
            char sign = signs.charAt(random.nextInt(signs.length()));
            switch (random.nextInt(3)) {
                case 0: text.setCharAt(at, sign); break;
                case 1: text.insert(at, sign); break;
                default: text.setLength(at); break;
            }
        }
        both("clearText", y -> y.clearText(), p -> p.clearText());
        for (int i = 0; i < text.length(); i++) {
            int sign = text.charAt(i);
            both("append", y -> y.append(sign), p -> p.append(sign));
        }
        both("carryOut of " + text, y -> y.carryOut(), p -> p.carryOut());
    }

    private String command() {
        int low = Math.min(200, Math.abs(position()) % 256);
        switch (random.nextInt(8)) {
            case 0: case 1:
                return "a " + signed(1000) % 2000000 + " " + signed(1000000) % 2000000 + " " + low + " " + (low + 20) + ";";
            case 2: return "e " + number() % 1000 + ";";
            case 3: return "t " + upTo(1000) % 2000 + ";";
            case 4: return "m " + number() % 1000 + " " + signed(1000000) % 9000000 + ";";
            case 5: return "q " + position() % 1000 + " " + tick() % 9000000 + ";";
            case 6: return "t 0000000;";
            default: return "s;";
        }
    }

    private void ask(int kind) {
        int position = position();
        int other = position();
        int t = tick();
        int s = number();
        int small = upTo(12) - (random.nextInt(10) == 0 ? 1 : 0);
        int what = random.nextInt(8) - 1;
        boolean flag = random.nextBoolean();
        switch (kind) {
            case 0: both("now", y -> y.now(), p -> p.now()); break;
            case 1: both("segments", y -> y.segments(), p -> p.segments()); break;
            case 2: both("segment", y -> y.segment(s, what), p -> p.segment(s, what)); break;
            case 3: both("minimum", y -> y.minimum(position, t), p -> p.minimum(position, t)); break;
            case 4: both("ranked", y -> y.ranked(position, t, small), p -> p.ranked(position, t, small)); break;
            case 5: askBelow(position, t); break;
            case 6: both("overtakes", y -> y.overtakes(s, small), p -> p.overtakes(s, small)); break;
            case 7: both("pieces", y -> y.pieces(t), p -> p.pieces(t)); break;
            case 8: both("piece", y -> y.piece(t, small, what - 1), p -> p.piece(t, small, what - 1)); break;
            case 9: both("sum", y -> y.sum(t, position, other), p -> p.sum(t, position, other)); break;
            case 10: both("visible", y -> y.visible(s, t), p -> p.visible(s, t)); break;
            case 11: both("hidden", y -> y.hidden(t), p -> p.hidden(t)); break;
            case 12: both("extreme", y -> y.extreme(t, flag), p -> p.extreme(t, flag)); break;
            case 13: both("intervals", y -> y.intervals(s), p -> p.intervals(s)); break;
            case 14: both("interval", y -> y.interval(s, small, flag), p -> p.interval(s, small, flag)); break;
            default: askHolders(); break;
        }
    }

    private void askBelow(int position, int t) {
        long[] limits = {Long.MIN_VALUE, Long.MAX_VALUE, signed(1000000), 1L + signed(1000), 1L << 32};
        long limit = limits[random.nextInt(limits.length)];
        both("below", y -> y.below(position, t, limit), p -> p.below(position, t, limit));
        int query = upTo(29);
        int what = random.nextInt(6) - 1;
        both("answer", y -> y.answer(query, what), p -> p.answer(query, what));
    }

    private void askHolders() {
        int length = random.nextInt(10) == 0 ? upTo(40000) : 1 << random.nextInt(16);
        int start = random.nextInt(10) == 0 ? upTo(16384) : length * random.nextInt(4);
        both("holders " + start + " " + length, y -> y.holders(start, length), p -> p.holders(start, length));
    }

    private void askOverTime(int kind) {
        int position = position();
        int t = tick();
        int until = tick();
        int from = random.nextInt(10) == 0 ? until : Math.min(t, until);
        int to = Math.max(t, until);
        int s = number();
        boolean flag = random.nextBoolean();
        switch (kind) {
            case 0: both("changes", y -> y.changes(position, from, to), p -> p.changes(position, from, to)); break;
            case 1: both("nextChange", y -> y.nextChange(position, t), p -> p.nextChange(position, t)); break;
            case 2:
                both("overTime", y -> y.overTime(position, from, to, flag), p -> p.overTime(position, from, to, flag));
                break;
            default: both("leads", y -> y.leads(s, position), p -> p.leads(s, position)); break;
        }
    }

    private void both(String call, Call real, PlainCall due) {
        if (calls >= CALLS) {
            return;
        }
        calls++;
        long want = 0;
        Class<?> wantThrown = null;
        try {
            want = due.run(plain);
        } catch (RuntimeException e) {
            wantThrown = e.getClass();
        }
        long got = 0;
        Class<?> thrown = null;
        try {
            got = real.run(x);
        } catch (RuntimeException e) {
            thrown = e.getClass();
        }
        String told = run + call;
        Due.is(told + " threw " + thrown + " where " + wantThrown + " is due", thrown == wantThrown ? 0 : 1, 0);
        if (wantThrown == null && thrown == null) {
            Due.is(told, got, want);
        }
    }
}
