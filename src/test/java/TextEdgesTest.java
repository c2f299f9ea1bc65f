/** Promises 33 to 35, and their words in the Description: each sentence that names an edge. */
public final class TextEdgesTest {
    private static final String DIGITS = "0123456789";
    private static final String LETTERS = "aetmqs";
    private static final int[] NUMBERS = {4, 1, 1, 2, 2, 0};

    public static void main(String[] args) {
        appendRanges();
        appendWhenFull();
        clearTextFromNoneToAll();
        noCommands();
        eachByteInEachPlace();
        textThatEndsTooEarly();
        mostAndFewestDigits();
        fullText();
        textStaysAsItIs();
        commandsAsByTheMethods();
        commandsThatThrow();
        indexOfTheFirstThatThrows();
        commandsOfAFullStore();
        syntaxBeforeCommands();
        undoable();
        Due.finish();
    }

    /** "value: the byte, 0 to 127" */
    private static void appendRanges() {
        Edge.range("append", SegmentTimes::new, 0, 127, Due.ARGUMENT, (x, v) -> x.append(v));
        Edge.range("append", Edge::rich, 0, 127, Due.ARGUMENT, (x, v) -> x.append(v));
    }

    /** "if the text has 120 bytes" comes behind "if value is out of range". */
    private static void appendWhenFull() {
        for (int length : new int[] {0, 1, 118, 119}) {
            Edge.answers("append to " + length + " bytes", () -> Edge.withText(Edge.repeated("x", length)), length + 1,
                    x -> x.append(127));
        }
        for (int value : new int[] {0, 's', ';', 127}) {
            Edge.refused("append of " + value + " to 120 bytes", Edge::full, Due.STATE, x -> x.append(value));
        }
        for (int value : new int[] {-1, 128, Edge.LEAST, Edge.MOST}) {
            Edge.refused("append of " + value + " to 120 bytes", Edge::full, Due.ARGUMENT, x -> x.append(value));
        }
    }

    /** "Empties the script text.", "Returns the length that it had." */
    private static void clearTextFromNoneToAll() {
        for (int length : new int[] {0, 1, 119, 120}) {
            Edge.answers("clearText of " + length, () -> Edge.withText(Edge.repeated(";", length)), length,
                    x -> x.clearText());
        }
        SegmentTimes x = Edge.full();
        Due.is("clearText() of a full text", x.clearText(), 120);
        Due.is("clearText() once more", x.clearText(), 0);
        Due.is("append to the emptied text", x.append('s'), 1);
        Due.is("the old bytes are gone", x.carryOut(), -11);
        Due.is("append", x.append(';'), 2);
        Due.is("the new ones are carried out", x.carryOut(), 1);
    }

    /** "there can be no commands" */
    private static void noCommands() {
        Edge.answers("carryOut() of a new object", SegmentTimes::new, 0, x -> x.carryOut());
        Edge.answers("carryOut() of no bytes", () -> Edge.withText(""), 0, x -> x.carryOut());
        SegmentTimes x = Edge.withText("");
        long before = x.digest();
        x.carryOut();
        Due.is("the digest stays, with four saved states", x.digest(), before);
        Due.is("undo() of no commands", x.undo(), 3);
        Due.is("it was the state of before", x.now(), 5);
    }

    private static int carried(String text) {
        SegmentTimes x = new SegmentTimes();
        Edge.write(x, text);
        return x.carryOut();
    }

    /** Of all bytes, the right ones alone can stand behind a start; and the text may not end there. */
    private static void place(String start, String right) {
        for (int value = 0; value <= 127; value++) {
            SegmentTimes x = new SegmentTimes();
            Edge.write(x, start);
            x.append(value);
            boolean stands = x.carryOut() != -10 - start.length();
            Due.is("byte " + value + " behind \"" + start + "\" stands", stands ? 1 : 0,
                    right.indexOf(value) >= 0 ? 1 : 0);
        }
        if (!start.isEmpty() && !start.endsWith(";")) {
            Due.is("an end behind \"" + start + "\"", carried(start), -10 - start.length());
        }
    }

    /** "the index of the first byte that cannot stand where it stands (an eighth digit, too)" */
    private static void eachByteInEachPlace() {
        for (String before : new String[] {"", "t 0;s;"}) {
            place(before, LETTERS);
            for (int c = 0; c < NUMBERS.length; c++) {
                String start = before + LETTERS.charAt(c);
                place(start, NUMBERS[c] == 0 ? ";" : " ");
                for (int n = 1; n <= NUMBERS[c]; n++) {
                    String after = n < NUMBERS[c] ? " " : ";";
                    place(start + " ", DIGITS + "-");
                    place(start + " -", DIGITS);
                    for (String sign : new String[] {"", "-"}) {
                        for (int digits = 1; digits < 7; digits++) {
                            place(start + " " + sign + DIGITS.substring(0, digits), DIGITS + after);
                        }
                        place(start + " " + sign + "9876543", after);
                    }
                    start = start + (n % 2 == 0 ? " -0" : " 0000001");
                }
                place(start + ";", LETTERS);
            }
        }
    }

    /** "or the length of the text if the text ends too early" */
    private static void textThatEndsTooEarly() {
        for (String text : new String[] {"a 1 2 3 4;", "e -1;", "t 1234567;", "m 1 -2;", "q 12 345;", "s;"}) {
            for (int length = 1; length < text.length(); length++) {
                String start = text.substring(0, length);
                Edge.leaves("carryOut() of \"" + start + "\"", () -> Edge.withText(start), -10 - length,
                        x -> x.carryOut());
                Due.is("carryOut() of \"s;" + start + "\"", carried("s;" + start), -12 - length);
            }
        }
    }

    /** "an optional minus sign, and one to seven digits" */
    private static void mostAndFewestDigits() {
        String[] texts = {"t 1;", "t 0000001;", "t 1000;", "t 0001000;", "t -0;", "t -0000000;", "t 0;"};
        int[] due = {1, 1, 1000, 1000, 0, 0, 0};
        for (int i = 0; i < texts.length; i++) {
            SegmentTimes x = new SegmentTimes();
            Edge.write(x, texts[i]);
            Due.is("carryOut() of " + texts[i], x.carryOut(), 1);
            Due.is("now() after " + texts[i], x.now(), due[i]);
        }
        String[] wrong = {"t 00000001;", "t 00000000;", "t -00000001;", "t ;", "t -;", "t --1;", "t 1-;", "t  1;",
            "t 1 ;", "t +1;", "t1;"};
        int[] position = {9, 9, 10, 2, 3, 3, 3, 2, 3, 2, 1};
        for (int i = 0; i < wrong.length; i++) {
            String text = wrong[i];
            Edge.leaves("carryOut() of " + text, () -> Edge.withText(text), -10 - position[i], x -> x.carryOut());
        }
        Edge.leaves("the greatest number", () -> Edge.withText("t 9999999;"), -1000, x -> x.carryOut());
        Edge.leaves("the least number", () -> Edge.withText("t -9999999;"), -1000, x -> x.carryOut());
    }

    /** "The text has at most 120 bytes." */
    private static void fullText() {
        String most = Edge.repeated("s;", 60);
        Due.is("60 commands", carried(most), 60);
        Due.is("59 commands", carried(most.substring(0, 118)), 59);
        Due.is("an end too early at 119", carried(most.substring(0, 119)), -10 - 119);
        Due.is("an end too early at 120", carried(most.substring(0, 116) + "t 12"), -10 - 120);
        Due.is("a wrong last byte", carried(most.substring(0, 119) + "s"), -10 - 119);
        Due.is("a wrong first byte", carried("x" + most.substring(0, 119)), -10);
        Due.is("the last command throws", carried(most.substring(0, 116) + "e 0;"), -1000 - 58);
        Due.is("12 commands of ten bytes", carried(Edge.repeated("a 1 2 3 4;", 12)), 12);
        SegmentTimes x = Edge.full();
        Due.is("carryOut() of a full text in a full store", x.carryOut(), 30);
        Due.is("now()", x.now(), 31);
        Due.is("carryOut() once more", x.carryOut(), 30);
        Due.is("now()", x.now(), 61);
        Due.is("one saved state for all commands", x.undo(), 3);
        Due.is("now() after undo()", x.now(), 31);
        x.undo();
        Due.is("now() after another undo()", x.now(), 1);
    }

    /** "The text stays as it is." */
    private static void textStaysAsItIs() {
        String[] texts = {"t 1;", "t 1;x", "t 1;e 9;", ""};
        int[] due = {1, -14, -1001, 0};
        for (int i = 0; i < texts.length; i++) {
            SegmentTimes x = Edge.withText(texts[i]);
            Due.is("carryOut() of " + texts[i], x.carryOut(), due[i]);
            Due.is("carryOut() of it once more", x.carryOut(), due[i]);
            Due.is("its length", x.clearText(), texts[i].length());
        }
    }

    private static void same(String text, Edge.Call call) {
        SegmentTimes x = Edge.withText(text);
        SegmentTimes y = Edge.withText(text);
        Due.is("carryOut() of " + text, x.carryOut(), 1);
        call.run(y);
        Due.is("digest() after " + text, x.digest(), y.digest());
        Due.is("undo() after " + text, x.undo(), y.undo());
        Due.is("digest() after undo() of " + text, x.digest(), y.digest());
    }

    /** "Carries out the commands of the text one after the other, as by the methods." */
    private static void commandsAsByTheMethods() {
        same("a 1000 1000000 0 255;", x -> x.add(1000, 1000000, 0, 255));
        same("a -1000 -1000000 255 255;", x -> x.add(-1000, -1000000, 255, 255));
        same("a 0 -0 0 0;", x -> x.add(0, 0, 0, 0));
        same("e 2;", x -> x.end(2));
        same("t 0;", x -> x.pass(0));
        same("t 1000;", x -> x.pass(1000));
        same("m 2 1000000;", x -> x.lift(2, 1000000));
        same("m 2 -999996;", x -> x.lift(2, -999996));
        same("m 2 0;", x -> x.lift(2, 0));
        same("q 0 0;", x -> x.collect(0, 0));
        same("q 255 16384;", x -> x.collect(255, 16384));
        same("s;", x -> x.solve());
        SegmentTimes x = Edge.withText("t 7;a 1 2 3 4;m 3 5;e 4;q 3 12;s;");
        Due.is("commands that use what the ones before did", x.carryOut(), 6);
        Due.segment(x, 3, 1, 2, 3, 4, 12, 12);
        Due.segment(x, 4, 1, 7, 3, 4, 12, 12);
        Due.is("the answer at the end", x.answer(2, 2), 1);
    }

    /** "If one of these would throw an exception, nothing is changed." */
    private static void commandsThatThrow() {
        String[] texts = {"a 1001 0 0 0;", "a -1001 0 0 0;", "a 0 1000001 0 0;", "a 0 -1000001 0 0;", "a 0 0 -1 0;",
            "a 0 0 1 0;", "a 0 0 0 256;", "a 0 0 256 256;", "a 9999999 0 0 0;", "e -1;", "e 3;", "e 0;", "e 9999999;",
            "t -1;", "t 1001;", "m -1 0;", "m 3 0;", "m 0 0;", "m 2 1000001;", "m 2 -1000001;", "m 2 -999997;",
            "q -1 0;", "q 256 0;", "q 0 -1;", "q 0 16385;", "q -9999999 9999999;"};
        String everything = "m 2 1;q 1 1;s;t 9;e 3;a 2 2 2 2;s;";
        for (String text : texts) {
            Edge.leaves("carryOut() of " + text, () -> Edge.withText(text), -1000, x -> x.carryOut());
            Edge.leaves("carryOut() of it with others before", () -> Edge.withText("s;t 0;" + text), -1002,
                    x -> x.carryOut());
            Edge.leaves("carryOut() of it with others behind", () -> Edge.withText(text + "s;a 1 1 1 1;"), -1000,
                    x -> x.carryOut());
        }
        Edge.answers("carryOut() of " + everything, () -> Edge.withText(everything), 7, x -> x.carryOut());
        Edge.leaves("carryOut() of all and a wrong one", () -> Edge.withText(everything + "e 9;"), -1007,
                x -> x.carryOut());
    }

    /** "-1000 minus the index of the first command (from 0) that would throw an exception" */
    private static void indexOfTheFirstThatThrows() {
        for (int index : new int[] {0, 1, 2, 30, 57, 58}) {
            String text = Edge.repeated("s;", index) + "e 0;";
            Due.is("carryOut() of " + text, carried(text), -1000 - index);
        }
        Due.is("the first of two", carried("s;e 0;s;e 0;"), -1001);
        Due.is("the second end of two", carried("a 0 0 0 0;e 0;e 0;e 0;"), -1002);
    }

    private static void inText(String told, SegmentTimes x, String text, int due) {
        Edge.write(x, text);
        Due.is(told, x.carryOut(), due);
    }

    /** The commands are refused where the methods are: 40 segments, 30 queries, tick 16383. */
    private static void commandsOfAFullStore() {
        inText("a segment 39", Edge.withSegments(39), "a 0 0 0 0;", 1);
        inText("a segment 40", Edge.withSegments(39), "a 0 0 0 0;a 0 0 0 0;", -1001);
        inText("a segment 40", Edge.withSegments(40), "a 0 0 0 0;", -1000);
        inText("lift to 39", Edge.withSegments(39), "m 0 1;", 1);
        inText("lift to 40", Edge.withSegments(39), "m 0 1;m 39 1;", -1001);
        inText("lift to 40", Edge.withSegments(40), "m 39 1;", -1000);
        inText("a query 29", Edge.withQueries(29), "q 0 0;", 1);
        inText("a query 30", Edge.withQueries(29), "q 0 0;q 0 0;", -1001);
        inText("a query 30", Edge.withQueries(30), "q 0 0;", -1000);
        inText("tick 16383", Edge.atTick(15383), "t 1000;", 1);
        inText("tick 16384", Edge.atTick(15383), "t 1000;t 0;t 1;", -1002);
        inText("tick 16384", Edge.atTick(15384), "t 1000;", -1000);
        inText("tick 16383 still", Edge.atTick(16383), "t 0;", 1);
    }

    /** "-10 minus the syntax error position if there is a syntax error" is told first. */
    private static void syntaxBeforeCommands() {
        Edge.leaves("a command that throws before it", () -> Edge.withText("e 0;x"), -14, x -> x.carryOut());
        Edge.leaves("an end too early behind one", () -> Edge.withText("t 1;e 0;t 1"), -21, x -> x.carryOut());
        Edge.leaves("good commands before it", () -> Edge.withText("t 1;s;t x;"), -18, x -> x.carryOut());
    }

    /** "Undoable, if nothing went wrong (one saved state for all commands)"; the text calls save nothing. */
    private static void undoable() {
        StateEdges.undoable("carryOut of no commands", () -> emptied(Edge.unsaved(), ""), x -> x.carryOut());
        StateEdges.undoable("carryOut of one", () -> emptied(Edge.unsaved(), "t 1;"), x -> x.carryOut());
        StateEdges.undoable("carryOut of some", () -> emptied(Edge.unsaved(), "t 1;e 0;m 1 4;q 0 0;s;a 1 1 1 1;"),
                x -> x.carryOut());
        StateEdges.savesNothing("clearText", x -> x.clearText());
        StateEdges.savesNothing("append", x -> x.clearText() + x.append('s'));
        StateEdges.savesNothing("carryOut of a wrong text", x -> x.clearText() + x.append('s') + x.carryOut());
        StateEdges.savesNothing("carryOut of a text that throws", x -> {
            Edge.write(x, "e 39;e 39;");
            return x.carryOut();
        });
        SegmentTimes x = Edge.withText("t 5;");
        x.carryOut();
        x.append('s');
        x.undo();
        Due.is("undo() leaves the text", x.clearText(), 5);
    }

    private static SegmentTimes emptied(SegmentTimes x, String text) {
        Edge.write(x, text);
        return x;
    }
}
