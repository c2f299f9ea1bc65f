/** Promises 20 to 23: how the first segment of the ranking changes over time. */
public final class OverTimeTest {
    public static void main(String[] args) {
        changes();
        nextChange();
        sameTick();
        overTime();
        leads();
        manyTurns();
        refusals();
        Due.finish();
    }

    /** At 10: none, then 0 from 5 on, 1 from 8 to 12, 0 until 20, none, 0 to 2 hidden behind, none at 30. */
    private static SegmentTimes some() {
        SegmentTimes x = new SegmentTimes();
        x.addThrough(0, 50, 20, 50, 5, 20);
        x.addThrough(10, 40, 10, 40, 8, 12);
        x.addThrough(0, 60, 20, 60, 6, 18);
        x.addThrough(11, 0, 20, 0, 0, 16384);
        x.addThrough(0, 70, 20, 70, 25, 30);
        x.addThrough(0, 10, 20, 10, 7, 7);
        return x;
    }

    private static void changes() {
        SegmentTimes x = some();
        Due.is("all changes", x.changes(10, 0, 16384), 6);
        Due.is("from is left out", x.changes(10, 5, 16384), 5);
        Due.is("to counts", x.changes(10, 0, 5), 1);
        Due.is("before it", x.changes(10, 0, 4), 0);
        Due.is("one tick", x.changes(10, 4, 5), 1);
        Due.is("the middle", x.changes(10, 8, 12), 1);
        Due.is("no tick at all", x.changes(10, 8, 8), 0);
        Due.is("to before the next one", x.changes(10, 12, 19), 0);
        Due.is("an end at 16384", x.changes(11, 0, 16384), 1);
        Due.is("without the end at 16384", x.changes(11, 0, 16383), 0);
        Due.is("only the end at 16384", x.changes(11, 16383, 16384), 1);
        Due.is("nothing after 16384", x.changes(11, 16384, 16384), 0);
        Due.is("never a segment", x.changes(21, 0, 16384), 0);
    }

    private static void nextChange() {
        SegmentTimes x = some();
        int[] due = {5, 5, 5, 5, 5, 8, 8, 8, 12, 12, 12, 12, 20};
        for (int t = 0; t < due.length; t++) {
            Due.is("nextChange(10, " + t + ")", x.nextChange(10, t), due[t]);
        }
        Due.is("nextChange(10, 19)", x.nextChange(10, 19), 20);
        Due.is("nextChange(10, 20)", x.nextChange(10, 20), 25);
        Due.is("nextChange(10, 25)", x.nextChange(10, 25), 30);
        Due.is("nextChange(10, 30)", x.nextChange(10, 30), -1);
        Due.is("nextChange to 16384", x.nextChange(11, 30), 16384);
        Due.is("nextChange(11, 16383)", x.nextChange(11, 16383), 16384);
        Due.is("nextChange(11, 16384)", x.nextChange(11, 16384), -1);
        Due.is("nextChange where nothing is", x.nextChange(21, 0), -1);
    }

    /** One life ends in the very tick in which another starts. */
    private static void sameTick() {
        SegmentTimes x = new SegmentTimes();
        x.addThrough(3, 1, 3, 1, 0, 4);
        x.addThrough(3, 1, 3, 1, 4, 9);
        x.addThrough(3, 2, 3, 2, 4, 9);
        Due.is("from one to the other", x.changes(3, 0, 8), 1);
        Due.is("at the seam", x.nextChange(3, 0), 4);
        Due.is("to none", x.nextChange(3, 4), 9);
        x.pass(6);
        x.lift(1, 0);
        Due.is("a lift by 0 is a change of the segment", x.nextChange(3, 4), 6);
        Due.is("the second of the lifted place leads not", x.leads(2, 3), 0);
        Due.is("the lifted one leads", x.leads(3, 3), 3);
    }

    private static void overTime() {
        SegmentTimes x = some();
        Due.is("smallest of all", x.overTime(10, 0, 16384, false), 40);
        Due.is("greatest of all", x.overTime(10, 0, 16384, true), 70);
        Due.is("greatest minimum, not value", x.overTime(10, 0, 20, true), 50);
        Due.is("smallest up to 7", x.overTime(10, 0, 7, false), 50);
        Due.is("to counts", x.overTime(10, 0, 8, false), 40);
        Due.is("from counts", x.overTime(10, 11, 20, false), 40);
        Due.is("from after it", x.overTime(10, 12, 20, false), 50);
        Due.is("one tick", x.overTime(10, 25, 25, false), 70);
        Due.is("a gap", x.overTime(10, 20, 24, true), Long.MAX_VALUE);
        Due.is("a gap and one tick", x.overTime(10, 20, 25, true), 70);
        Due.is("at 16384", x.overTime(11, 16384, 16384, true), Long.MAX_VALUE);
        Due.is("where nothing is", x.overTime(21, 0, 16384, false), Long.MAX_VALUE);
        x.addThrough(10, -5, 10, -5, 40, 41);
        Due.is("below 0", x.overTime(10, 0, 16384, false), -5);
        Due.is("greatest below 0", x.overTime(10, 30, 16384, true), -5);
    }

    private static void leads() {
        SegmentTimes x = some();
        Due.is("in two parts", x.leads(0, 10), 3 + 8);
        Due.is("a short life", x.leads(1, 10), 4);
        Due.is("always behind", x.leads(2, 10), 0);
        Due.is("out of its range", x.leads(3, 10), 0);
        Due.is("all ticks", x.leads(3, 11), 16384);
        Due.is("the last one", x.leads(4, 10), 5);
        Due.is("without a life", x.leads(5, 10), 0);
        Due.is("elsewhere", x.leads(0, 9), 15);
        Due.is("out of all ranges", x.leads(0, 21), 0);
        Due.is("at position 0", x.leads(0, 0), 15);
        x.addThrough(255, 0, 255, 0, 7, 11);
        Due.is("at position 255", x.leads(6, 255), 4);
    }

    private static SegmentTimes turning() {
        SegmentTimes x = new SegmentTimes();
        for (int i = 0; i < 40; i++) {
            int height = (i * 7) % 40;
            x.addThrough(9, height, 9, height, 100 * i + i, 16384 - 90 * i - 2 * i);
        }
        return x;
    }

    /** 40 lives with 80 different starts and ends, tick by tick; an object answers 400 ticks of them. */
    private static void manyTurns() {
        SegmentTimes x = turning();
        int count = 0;
        int before = -1;
        int[] led = new int[40];
        for (int t = 0; t <= 16384; t++) {
            if (t % 400 == 399) {
                x = turning();
            }
            int first = x.ranked(9, t, 0);
            count += t > 0 && first != before ? 1 : 0;
            if (first >= 0) {
                led[first]++;
            }
            before = first;
        }
        x = turning();
        Due.is("changes with many turns", x.changes(9, 0, 16384), count);
        for (int i = 0; i < 40; i++) {
            Due.is("leads(" + i + ", 9) with many turns", x.leads(i, 9), led[i]);
        }
    }

    private static void refusals() {
        SegmentTimes x = some();
        int[][] spans = {{-1, 0, 0}, {256, 0, 0}, {0, -1, 0}, {0, 1, 0}, {0, 0, 16385}, {0, 16385, 16385},
            {0, 0, -1}, {0, -2, -1}, {0, Integer.MIN_VALUE, Integer.MAX_VALUE}};
        for (int[] s : spans) {
            String told = "(" + s[0] + ", " + s[1] + ", " + s[2] + ")";
            Due.refused("changes" + told, x, Due.ARGUMENT, () -> x.changes(s[0], s[1], s[2]));
            Due.refused("overTime" + told, x, Due.ARGUMENT, () -> x.overTime(s[0], s[1], s[2], true));
        }
        int[][] places = {{-1, 0}, {256, 0}, {0, -1}, {0, 16385}};
        for (int[] p : places) {
            Due.refused("nextChange(" + p[0] + ", " + p[1] + ")", x, Due.ARGUMENT, () -> x.nextChange(p[0], p[1]));
        }
        Due.refused("leads(0, -1)", x, Due.ARGUMENT, () -> x.leads(0, -1));
        Due.refused("leads(0, 256)", x, Due.ARGUMENT, () -> x.leads(0, 256));
        Due.refused("leads(6, 256)", x, Due.INDEX, () -> x.leads(6, 256));
        Due.refused("leads(-1, 0)", x, Due.INDEX, () -> x.leads(-1, 0));
    }
}
