/** Promises 33 to 35: the script text, its syntax, and how it is carried out. */
public final class TextTest {
    public static void main(String[] args) {
        appendAndClear();
        syntax();
        commands();
        failing();
        allOrNothing();
        fullText();
        Due.finish();
    }

    private static int carried(SegmentTimes x, String text) {
        Due.write(x, text);
        return x.carryOut();
    }

    private static void appendAndClear() {
        SegmentTimes x = new SegmentTimes();
        Due.is("append(0)", x.append(0), 1);
        Due.is("append(127)", x.append(127), 2);
        for (int wrong : new int[] {-1, 128, Integer.MIN_VALUE, Integer.MAX_VALUE}) {
            Due.refused("append(" + wrong + ")", x, Due.ARGUMENT, () -> x.append(wrong));
        }
        Due.is("clearText()", x.clearText(), 2);
        Due.is("clearText() again", x.clearText(), 0);
        for (int i = 1; i <= 120; i++) {
            Due.is("append", x.append(';'), i);
        }
        Due.refused("append(128) to a full text", x, Due.ARGUMENT, () -> x.append(128));
        Due.refused("append to a full text", x, Due.STATE, () -> x.append(0));
        Due.is("clearText() of a full text", x.clearText(), 120);
        Due.refused("undo() after text calls", x, Due.STATE, () -> x.undo());
        Due.is("append after clearText()", x.append('s'), 1);
    }

    private static void syntax() {
        String[] texts = {"x", "S;", ";", " ", "s", "s ;", "s;;", "s; s;", "ss;", "s;a", "a;", "a 1 2 3;", "a 1 2 3",
            "a 1 2 3 4", "a 1 2 3 4 ", "a 1 2 3 4 5;", "a  1 2 3 4;", "a1 2 3 4;", "a 1,2 3 4;", "a -", "a --1 2 3 4;",
            "a - 1 2 3 4;", "a -;", "a +1 2 3 4;", "e;", "e ;", "e", "e ", "e 1", "e 1 ;", "e 1 2;", "e 12345678;",
            "e -12345678;", "e 1234567", "e 1234567;t", "m 1;", "m 1 ;", "m 1 2 3;", "q 1;", "q 1 2", "t 1;t 1;x",
            "s 1;", "t 1.5;", "t 1\0;", "\177", "e -0000000", "e 1-;", "e 1-2;", "d 1;", "q 1 -12345678;"};
        int[] due = {0, 0, 0, 0, 1, 1, 2, 2, 1, 3, 1, 7, 7, 9, 9, 9, 2, 1, 3, 3, 3, 3, 3, 2, 1, 2, 1, 2, 3, 3, 3, 9,
            10, 9, 11, 3, 4, 5, 3, 5, 8, 1, 3, 3, 0, 10, 3, 3, 0, 12};
        SegmentTimes x = new SegmentTimes();
        x.add(1, 1, 1, 1);
        for (int i = 0; i < texts.length; i++) {
            Due.write(x, texts[i]);
            long before = x.digest();
            Due.is("carryOut() of \"" + texts[i] + "\"", x.carryOut(), -10 - due[i]);
            Due.is("digest() after it", x.digest(), before);
        }
        Due.is("saved states", x.undo(), 0);
    }

    private static void commands() {
        SegmentTimes x = new SegmentTimes();
        Due.is("no commands", x.carryOut(), 0);
        Due.is("undo() of no commands", x.undo(), 0);
        Due.is("a", carried(x, "a -1000 -1000000 0 255;"), 1);
        Due.segment(x, 0, -1000, -1000000, 0, 255, 0, 16384);
        Due.is("t", carried(x, "t 0000012;"), 1);
        Due.is("now()", x.now(), 12);
        Due.is("m", carried(x, "m 0 1000000;"), 1);
        Due.segment(x, 0, -1000, -1000000, 0, 255, 0, 12);
        Due.segment(x, 1, -1000, 0, 0, 255, 12, 16384);
        Due.is("q", carried(x, "q 2 11;q 3 16384;"), 2);
        Due.is("s", carried(x, "s;"), 1);
        Due.is("the minimum", x.answer(0, 0), -1002000);
        Due.is("no minimum", x.answer(1, 0), Long.MAX_VALUE);
        Due.is("e", carried(x, "e -0000001;"), -1000);
        Due.is("e", carried(x, "t 3;e 01;"), 2);
        Due.segment(x, 1, -1000, 0, 0, 255, 12, 15);
        Due.is("the text stays", x.clearText(), 9);
        Due.is("carryOut() twice", carried(x, "a 1 2 3 4;"), 1);
        Due.is("carryOut() twice", x.carryOut(), 1);
        Due.is("segments()", x.segments(), 4);
        Due.is("-0", carried(x, "a -0 0 0 00;"), 1);
        Due.segment(x, 4, 0, 0, 0, 0, 15, 16384);
    }

    private static void failing() {
        String[] texts = {"e 0;", "s;e 0;", "a 1001 0 0 0;", "a 0 1000001 0 0;", "a 0 0 1 0;", "a 0 0 0 256;",
            "a 0 0 0 0;e 0;e 0;", "t 1001;", "t -1;", "m 0 0;", "a 0 0 0 0;m 0 9999999;", "a 0 0 0 0;t 1;e 0;m 0 0;",
            "q 256 0;", "q 0 16385;", "s;q 0 0;q -1 0;", "a 0 0 0 0;m -1 0;"};
        int[] due = {0, 1, 0, 0, 0, 0, 2, 0, 0, 0, 1, 3, 0, 0, 2, 1};
        SegmentTimes x = new SegmentTimes();
        for (int i = 0; i < texts.length; i++) {
            Due.write(x, texts[i]);
            long before = x.digest();
            Due.is("carryOut() of " + texts[i], x.carryOut(), -1000 - due[i]);
            Due.is("digest() after it", x.digest(), before);
        }
        Due.is("a syntax error behind a failing command", carried(x, "e 9;x"), -14);
        Due.refused("undo() after failed texts", x, Due.STATE, () -> x.undo());
        for (int i = 0; i < 40; i++) {
            x.add(0, 0, 0, 0);
        }
        Due.is("a segment 40", carried(x, "t 1;a 0 0 0 0;"), -1001);
        Due.is("lift with 40 segments", carried(x, "m 0 0;"), -1000);
        for (int i = 0; i < 29; i++) {
            x.collect(0, 0);
        }
        Due.is("a query 30", carried(x, "q 0 0;q 0 0;"), -1001);
        for (int i = 0; i < 16; i++) {
            x.pass(1000);
        }
        Due.is("past the last tick", carried(x, "t 383;t 0;t 1;"), -1002);
        Due.is("to the last tick", carried(x, "t 383;t 0;"), 2);
        Due.is("now()", x.now(), 16383);
    }

    private static void allOrNothing() {
        SegmentTimes x = new SegmentTimes();
        x.add(1, 0, 0, 9);
        x.collect(5, 0);
        x.solve();
        x.mark();
        x.pass(3);
        long before = x.digest();
        Due.is("a failing text", carried(x, "e 0;t 9;a 2 2 2 2;q 1 1;s;m 7 7;"), -1005);
        Due.is("clearText()", x.clearText(), 32);
        Due.is("digest() after it", x.digest(), before);
        Due.segment(x, 0, 1, 0, 0, 9, 0, 16384);
        Due.is("the answer", x.answer(0, 0), 5);
        Due.is("the same text mended", carried(x, "e 0;t 9;a 2 2 2 2;q 1 1;s;m 1 7;"), 6);
        Due.is("now()", x.now(), 12);
        Due.is("one undo() for all commands", x.undo(), 3);
        x.clearText();
        Due.is("undo() is told in the digest", x.undo(), 2);
        Due.is("now()", x.now(), 0);
        Due.is("the mark of before", x.undo(), 1);
        Due.is("the query has no answer", x.undo(), 0);
        Due.refused("undo() of what was dropped", x, Due.STATE, () -> x.undo());
        Due.refused("answer(0, 0)", x, Due.STATE, () -> x.answer(0, 0));
    }

    private static void fullText() {
        SegmentTimes x = new SegmentTimes();
        StringBuilder text = new StringBuilder();
        for (int i = 0; i < 60; i++) {
            text.append("s;");
        }
        Due.is("60 commands", carried(x, text.toString()), 60);
        Due.is("one saved state", x.undo(), 0);
        text.setLength(116);
        Due.is("an end too early in a full text", carried(x, text + "t 12"), -130);
        Due.is("the last byte is wrong", carried(x, text + "t 1,"), -129);
        text.setLength(0);
        for (int i = 0; i < 12; i++) {
            text.append("a 1 2 3 4;");
        }
        Due.is("12 segments", carried(x, text.toString()), 12);
        Due.is("segments()", x.segments(), 12);
    }
}
