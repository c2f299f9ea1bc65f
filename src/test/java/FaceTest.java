import java.lang.reflect.Constructor;
import java.lang.reflect.Field;
import java.lang.reflect.Method;
import java.lang.reflect.Modifier;
import java.util.Arrays;
import java.util.Set;
import java.util.TreeSet;

/** The face of the class is the document's one, with nothing more and nothing less. */
public final class FaceTest {
    /** Behind each method what it throws, in the order of the document: A, I and S, as letter() has them. */
    private static final String[] METHODS = {
        "int add(int,int,int,int) AS", "int addThrough(int,int,int,int,int,int) AS", "int end(int) IS",
        "int lift(int,int) IAS", "int pass(int) AS", "int now()", "int segments()", "int segment(int,int) IA",
        "long minimum(int,int) A", "int ranked(int,int,int) A", "int below(int,int,long) A",
        "int overtakes(int,int) I", "int pieces(int) A", "int piece(int,int,int) AI", "long sum(int,int,int) A",
        "int visible(int,int) IA", "int hidden(int) A", "int extreme(int,boolean) A", "int changes(int,int,int) A",
        "int nextChange(int,int) A", "long overTime(int,int,int,boolean) A", "int leads(int,int) IA",
        "int intervals(int) I", "int interval(int,int,boolean) I", "int holders(int,int) A",
        "int collect(int,int) AS", "int solve()", "long answer(int,int) IAS", "int forget()", "int mark() S",
        "int rollBack() S", "int append(int) AS", "int clearText()", "int carryOut()", "int undo() S",
        "long digest()",
    };

    public static void main(String[] args) throws NoSuchFieldException {
        Class<?> face = SegmentTimes.class;
        Due.is("the class is public and final", face.getModifiers(), Modifier.PUBLIC | Modifier.FINAL);
        Set<String> found = new TreeSet<>();
        Set<String> publicNames = new TreeSet<>();
        Set<String> privateNames = new TreeSet<>();
        for (Method method : face.getDeclaredMethods()) {
            if (Modifier.isPrivate(method.getModifiers())) {
                privateNames.add(method.getName());
            } else {
                found.add(told(method));
                publicNames.add(method.getName());
            }
        }
        compare(new TreeSet<>(Arrays.asList(METHODS)), found);
        privateNames.retainAll(publicNames);
        Due.is("private methods with public names " + privateNames, privateNames.size(), 0);
        int open = 0;
        for (Field field : face.getDeclaredFields()) {
            if (!Modifier.isPrivate(field.getModifiers())) {
                open++;
                Due.is("field " + field.getName(), field.getModifiers(),
                        Modifier.PUBLIC | Modifier.STATIC | Modifier.FINAL);
            }
            Due.is("not both static and changing: " + field.getName(),
                    field.getModifiers() & (Modifier.STATIC | Modifier.FINAL) & Modifier.STATIC,
                    Modifier.isFinal(field.getModifiers()) ? field.getModifiers() & Modifier.STATIC : 0);
        }
        Due.is("open fields", open, 1);
        Due.is("NONE", SegmentTimes.NONE, -1);
        Due.is("its type is int", face.getDeclaredField("NONE").getType() == int.class ? 1 : 0, 1);
        Constructor<?>[] constructors = face.getDeclaredConstructors();
        Due.is("constructors", constructors.length, 1);
        Due.is("it is public", constructors[0].getModifiers(), Modifier.PUBLIC);
        Due.is("its parameters", constructors[0].getParameterCount(), 0);
        Due.is("its exceptions", constructors[0].getExceptionTypes().length, 0);
        for (Class<?> inside : face.getDeclaredClasses()) {
            Due.is("static and not public: " + inside, inside.getModifiers()
                    & (Modifier.STATIC | Modifier.PUBLIC | Modifier.PROTECTED), Modifier.STATIC);
        }
        Due.finish();
    }

    private static void compare(Set<String> due, Set<String> found) {
        Set<String> missing = new TreeSet<>(due);
        missing.removeAll(found);
        Set<String> extra = new TreeSet<>(found);
        extra.removeAll(due);
        Due.is("missing of the face: " + missing, missing.size(), 0);
        Due.is("not of the face: " + extra, extra.size(), 0);
    }

    private static String told(Method method) {
        StringBuilder text = new StringBuilder();
        if (!Modifier.isPublic(method.getModifiers()) || Modifier.isStatic(method.getModifiers())) {
            text.append(Modifier.toString(method.getModifiers())).append(' ');
        }
        text.append(method.getReturnType()).append(' ').append(method.getName()).append('(');
        String comma = "";
        for (Class<?> parameter : method.getParameterTypes()) {
            text.append(comma).append(parameter);
            comma = ",";
        }
        text.append(')');
        String blank = " ";
        for (Class<?> thrown : method.getExceptionTypes()) {
            text.append(blank).append(letter(thrown));
            blank = "";
        }
        return text.toString();
    }

    private static String letter(Class<?> thrown) {
        if (thrown == Due.ARGUMENT) {
            return "A";
        }
        if (thrown == Due.INDEX) {
            return "I";
        }
        return thrown == Due.STATE ? "S" : thrown.getName();
    }
}
