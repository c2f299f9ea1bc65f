import java.io.IOException;
import java.nio.file.Files;
import java.nio.file.Path;
import java.util.ArrayList;
import java.util.List;
import java.util.TreeSet;
import java.util.regex.Matcher;
import java.util.regex.Pattern;
import java.util.stream.Stream;

/** What README.md says under Use is so, line by line in its order, and its table names each test. */
public final class ReadmeTest {
    private static final Path README = Path.of("README.md");
    private static final Path TESTS = Path.of("src/test/java");

    private final String readme = Files.readString(README);
    private final List<String> lines = new ArrayList<>();
    private int next = 0;

    private ReadmeTest() throws IOException {
        Matcher block = Pattern.compile("(?s)```java\n(.*?)```").matcher(readme);
        while (block.find()) {
            block.group(1).lines().filter(line -> line.startsWith("store.")).forEach(lines::add);
        }
    }

    public static void main(String[] args) throws IOException {
        ReadmeTest test = new ReadmeTest();
        SegmentTimes store = new SegmentTimes();
        test.segments(store);
        test.minima(store);
        test.envelope(store);
        test.overTime(store);
        test.dyadicIntervals(store);
        test.queries(store);
        test.marksAndUndo(store);
        test.scripts(store);
        test.exceptions(store);
        Due.is("all lines of README are looked at", test.next, test.lines.size());
        test.digest();
        test.table();
        Due.finish();
    }

    /** The next line is this call, and the first word behind it is this one. */
    private void says(String call, String answer) {
        String line = next < lines.size() ? lines.get(next) : "";
        next++;
        boolean so = line.matches(Pattern.quote(call + ";") + " +// " + Pattern.quote(answer) + "([,:].*)?");
        Due.is("README has \"" + call + "; // " + answer + "\" in the place of \"" + line + "\"", so ? 1 : 0, 1);
    }

    private void says(String call, long answer) {
        says(call, Long.toString(answer));
    }

    private void segments(SegmentTimes store) {
        says("store.add(1, 0, 0, 20)", store.add(1, 0, 0, 20));
        says("store.add(-1, 20, 0, 30)", store.add(-1, 20, 0, 30));
        says("store.addThrough(2, 6, 4, 8, 100, 200)", store.addThrough(2, 6, 4, 8, 100, 200));
        says("store.pass(10)", store.pass(10));
        says("store.end(0)", store.end(0));
        says("store.lift(1, 5)", store.lift(1, 5));
        says("store.segments()", store.segments());
        says("store.segment(3, 1)", store.segment(3, 1));
        says("store.now()", store.now());
        Due.segment(store, 2, 1, 4, 2, 4, 100, 200);
        Due.segment(store, 3, -1, 25, 0, 30, 10, 16384);
    }

    private void minima(SegmentTimes store) {
        says("store.minimum(5, 0)", store.minimum(5, 0));
        says("store.ranked(15, 0, 0)", store.ranked(15, 0, 0));
        says("store.ranked(15, 0, 1)", store.ranked(15, 0, 1));
        says("store.below(15, 0, 10)", store.below(15, 0, 10));
        says("store.overtakes(0, 1)", store.overtakes(0, 1));
    }

    private void envelope(SegmentTimes store) {
        says("store.pieces(0)", store.pieces(0));
        says("store.piece(0, 1, 0)", store.piece(0, 1, 0));
        says("store.piece(0, 1, 1)", store.piece(0, 1, 1));
        says("store.piece(0, 2, 2)", store.piece(0, 2, 2));
        says("store.sum(0, 0, 255)", store.sum(0, 0, 255));
        says("store.visible(1, 0)", store.visible(1, 0));
        says("store.hidden(0)", store.hidden(0));
        says("store.extreme(0, true)", store.extreme(0, true));
        says("store.extreme(0, false)", store.extreme(0, false));
    }

    private void overTime(SegmentTimes store) {
        says("store.changes(3, 0, 16384)", store.changes(3, 0, 16384));
        says("store.nextChange(3, 10)", store.nextChange(3, 10));
        says("store.overTime(3, 0, 16384, true)", store.overTime(3, 0, 16384, true));
        says("store.leads(2, 3)", store.leads(2, 3));
        int tick = 0;
        for (int due : new int[] {10, 100, 200, 16384}) {
            tick = store.nextChange(3, tick);
            Due.is("a change that README names", tick, due);
        }
    }

    private void dyadicIntervals(SegmentTimes store) {
        says("store.intervals(2)", store.intervals(2));
        says("store.interval(2, 1, false)", store.interval(2, 1, false));
        says("store.interval(2, 1, true)", store.interval(2, 1, true));
        says("store.holders(128, 64)", store.holders(128, 64));
    }

    private void queries(SegmentTimes store) {
        says("store.collect(3, 150)", store.collect(3, 150));
        says("store.solve()", store.solve());
        says("store.answer(0, 0)", store.answer(0, 0));
        says("store.answer(0, 1)", store.answer(0, 1));
        says("store.answer(0, 2)", store.answer(0, 2));
        says("store.forget()", store.forget());
    }

    private void marksAndUndo(SegmentTimes store) {
        says("store.mark()", store.mark());
        says("store.pass(1000)", store.pass(1000));
        says("store.rollBack()", store.rollBack());
        says("store.now()", store.now());
        says("store.undo()", store.undo());
        says("store.now()", store.now());
    }

    private void scripts(SegmentTimes store) {
        says("store.append('t')", store.append('t'));
        says("store.append(' ')", store.append(' '));
        says("store.append('7')", store.append('7'));
        says("store.carryOut()", store.carryOut());
        says("store.append(';')", store.append(';'));
        says("store.carryOut()", store.carryOut());
        says("store.now()", store.now());
        says("store.clearText()", store.clearText());
    }

    private void exceptions(SegmentTimes store) {
        says("store.add(1001, 0, 0, 20)", Due.ARGUMENT.getSimpleName());
        Due.refused("add of README", store, Due.ARGUMENT, () -> store.add(1001, 0, 0, 20));
        says("store.end(40)", Due.INDEX.getSimpleName());
        Due.refused("end(40) of README", store, Due.INDEX, () -> store.end(40));
        says("store.end(0)", Due.STATE.getSimpleName());
        Due.refused("end(0) of README", store, Due.STATE, () -> store.end(0));
    }

    private void digest() {
        Due.is("two objects with the same state", Edge.full().digest(), Edge.full().digest());
        Due.is("two texts of the same length", Edge.withText("s;").digest(), Edge.withText("xy").digest());
        SegmentTimes early = new SegmentTimes();
        early.mark();
        early.pass(1);
        SegmentTimes late = new SegmentTimes();
        late.pass(1);
        late.mark();
        Due.is("as many marks and saved states", early.digest(), late.digest());
    }

    private void table() throws IOException {
        TreeSet<String> found = new TreeSet<>();
        try (Stream<Path> files = Files.list(TESTS)) {
            files.map(file -> file.getFileName().toString()).filter(name -> name.endsWith("Test.java"))
                    .forEach(name -> found.add(name.substring(0, name.length() - ".java".length())));
        }
        TreeSet<String> named = new TreeSet<>();
        Matcher name = Pattern.compile("`(\\w+Test)`").matcher(readme);
        while (name.find()) {
            named.add(name.group(1));
        }
        Due.is("tests in README " + named + ", in " + TESTS + " " + found, named.equals(found) ? 1 : 0, 1);
    }
}
