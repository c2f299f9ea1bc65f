import java.lang.reflect.Constructor;
import java.lang.reflect.Field;
import java.lang.reflect.Method;
import java.lang.reflect.Modifier;
import java.util.Arrays;
import java.util.Set;
import java.util.TreeSet;

/** The face of the class is the document's one, with nothing more and nothing less. */
public final class FaceTest {
    private static final String[] METHODS = {
        "int add(int,int,int,int)", "int addThrough(int,int,int,int,int,int)", "int end(int)", "int lift(int,int)",
        "int pass(int)", "int now()", "int segments()", "int segment(int,int)", "long minimum(int,int)",
        "int ranked(int,int,int)", "int below(int,int,long)", "int overtakes(int,int)", "int pieces(int)",
        "int piece(int,int,int)", "long sum(int,int,int)", "int visible(int,int)", "int hidden(int)",
        "int extreme(int,boolean)", "int changes(int,int,int)", "int nextChange(int,int)",
        "long overTime(int,int,int,boolean)", "int leads(int,int)", "int intervals(int)",
        "int interval(int,int,boolean)", "int holders(int,int)", "int collect(int,int)", "int solve()",
        "long answer(int,int)", "int forget()", "int mark()", "int rollBack()", "int append(int)",
        "int clearText()", "int carryOut()", "int undo()", "long digest()",
    };

    public static void main(String[] args) {
        Class<?> face = SegmentTimes.class;
        Due.is("the class is public and final", face.getModifiers(), Modifier.PUBLIC | Modifier.FINAL);
        Set<String> found = new TreeSet<>();
        Set<String> publicNames = new TreeSet<>();
        Set<String> privateNames = new TreeSet<>();
        for (Method method : face.getDeclaredMethods()) {
            if (Modifier.isPrivate(method.getModifiers())) {
                privateNames.add(method.getName());
            } else {
                found.add(told(method));
                publicNames.add(method.getName());
            }
        }
        compare(new TreeSet<>(Arrays.asList(METHODS)), found);
        privateNames.retainAll(publicNames);
        Due.is("private methods with public names " + privateNames, privateNames.size(), 0);
        int open = 0;
        for (Field field : face.getDeclaredFields()) {
            if (!Modifier.isPrivate(field.getModifiers())) {
                open++;
                Due.is("field " + field.getName(), field.getModifiers(),
                        Modifier.PUBLIC | Modifier.STATIC | Modifier.FINAL);
            }
            Due.is("not both static and changing: " + field.getName(),
                    field.getModifiers() & (Modifier.STATIC | Modifier.FINAL) & Modifier.STATIC,
                    Modifier.isFinal(field.getModifiers()) ? field.getModifiers() & Modifier.STATIC : 0);
        }
        Due.is("open fields", open, 1);
        Due.is("NONE", SegmentTimes.NONE, -1);
        Constructor<?>[] constructors = face.getDeclaredConstructors();
        Due.is("constructors", constructors.length, 1);
        Due.is("its parameters", constructors[0].getParameterCount(), 0);
        for (Class<?> inside : face.getDeclaredClasses()) {
            Due.is("static and not public: " + inside, inside.getModifiers()
                    & (Modifier.STATIC | Modifier.PUBLIC | Modifier.PROTECTED), Modifier.STATIC);
        }
        Due.finish();
    }

    private static void compare(Set<String> due, Set<String> found) {
        Set<String> missing = new TreeSet<>(due);
        missing.removeAll(found);
        Set<String> extra = new TreeSet<>(found);
        extra.removeAll(due);
        Due.is("missing of the face: " + missing, missing.size(), 0);
        Due.is("not of the face: " + extra, extra.size(), 0);
    }

    private static String told(Method method) {
        StringBuilder text = new StringBuilder();
        if (!Modifier.isPublic(method.getModifiers()) || Modifier.isStatic(method.getModifiers())) {
            text.append(Modifier.toString(method.getModifiers())).append(' ');
        }
        text.append(method.getReturnType()).append(' ').append(method.getName()).append('(');
        String comma = "";
        for (Class<?> parameter : method.getParameterTypes()) {
            text.append(comma).append(parameter);
            comma = ",";
        }
        return text.append(')').toString();
    }
}
