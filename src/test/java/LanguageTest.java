import java.io.IOException;
import java.lang.reflect.Field;
import java.lang.reflect.Method;
import java.lang.reflect.Modifier;
import java.nio.charset.StandardCharsets;
import java.nio.file.Files;
import java.nio.file.Path;
import java.util.Arrays;
import java.util.HashSet;
import java.util.List;
import java.util.Set;
import java.util.regex.Matcher;
import java.util.regex.Pattern;

/** What can be counted or looked up of LANGUAGE.md, in the class as it is compiled and in its source. */
public final class LanguageTest {
    private static final Path SOURCE = Path.of("src/main/java/SegmentTimes.java");

    /** Rules 4 and 6: of all that they allow, what the class uses. */
    private static final Set<String> LIBRARY = Set.of("java/lang/Object.<init>:()V",
            "java/lang/Math.max:(II)I", "java/lang/Math.min:(II)I", "java/lang/Math.floorMod:(II)I",
            "java/lang/System.arraycopy:(Ljava/lang/Object;ILjava/lang/Object;II)V",
            "java/lang/IllegalArgumentException.<init>:(Ljava/lang/String;)V",
            "java/lang/IllegalStateException.<init>:(Ljava/lang/String;)V",
            "java/lang/IndexOutOfBoundsException.<init>:(Ljava/lang/String;)V");

    /** Rule 5 */
    private static final Set<Class<?>> CONSTANT_TYPES = Set.of(int.class, long.class, boolean.class, char.class,
            String.class, int[].class, long[].class, char[].class, byte[].class);

    private static final String COMMENTS_AND_TEXTS =
            "(?s)/\\*.*?\\*/|//[^\n]*|\"(\\\\.|[^\"\\\\])*\"|'(\\\\.|[^'\\\\])*'";

    public static void main(String[] args) throws IOException {
        List<Class<?>> family = ClassFile.family(SegmentTimes.class);
        Due.is("rule 11: at most twelve classes", family.size() <= 12 ? 1 : 0, 1);
        for (Class<?> one : family) {
            fields(one);
            methods(one);
            compiled(one, ClassFile.of(one));
        }
        Due.is("the class has methods", ClassFile.of(SegmentTimes.class).lines.size() > 36 ? 1 : 0, 1);
        names(family);
        source(family);
        Due.finish();
    }

    private static void fields(Class<?> one) {
        int fields = 0;
        for (Field field : one.getDeclaredFields()) {
            if (Modifier.isStatic(field.getModifiers())) {
                Due.is("rule 5: " + field, Modifier.isFinal(field.getModifiers())
                        && CONSTANT_TYPES.contains(field.getType()) ? 1 : 0, 1);
            } else {
                fields++;
            }
        }
        Due.is("rule 11: at most twenty fields in " + one, fields <= 20 ? 1 : 0, 1);
    }

    private static void methods(Class<?> one) {
        for (Method method : one.getDeclaredMethods()) {
            Due.is("rule 11: at most seven parameters of " + method, method.getParameterCount() <= 7 ? 1 : 0, 1);
        }
    }

    private static void compiled(Class<?> one, ClassFile file) {
        for (String used : file.used) {
            Due.is("rule 4: " + used + " in " + one, used.startsWith("SegmentTimes") || LIBRARY.contains(used) ? 1 : 0,
                    1);
        }
        Due.is("rules 2 and 10: lambdas, method references, texts joined by + in " + one, file.dynamic, 0);
        Due.is("rule 6: nothing is caught in " + one, file.caught, 0);
        file.lines.forEach((method, lines) ->
                Due.is("rule 11: at most sixty lines in " + method + " of " + one, lines <= 60 ? 1 : 0, 1));
    }

    /** Rule 1: "No private method bears the name of a public one", nor does one of the classes inside. */
    private static void names(List<Class<?>> family) {
        Set<String> face = new HashSet<>();
        for (Method method : SegmentTimes.class.getDeclaredMethods()) {
            if (Modifier.isPublic(method.getModifiers())) {
                face.add(method.getName());
            }
        }
        for (Class<?> one : family) {
            Arrays.stream(one.getDeclaredMethods()).filter(m -> !Modifier.isPublic(m.getModifiers()))
                    .forEach(m -> Due.is("rule 1: the name of " + m, face.contains(m.getName()) ? 1 : 0, 0));
        }
    }

    private static void source(List<Class<?>> family) throws IOException {
        String source = Files.readString(SOURCE, StandardCharsets.ISO_8859_1);
        Due.is("rule 4: signs beyond 127", source.chars().filter(sign -> sign > 127).count(), 0);
        String code = source.replaceAll(COMMENTS_AND_TEXTS, "0");
        Due.is("rules 1, 6 and 10: words that the class does without", count(code, "\\b(import|package|try|catch|finally"
                + "|synchronized|assert|native|volatile)\\b|->|::|@"), 0);
        Due.is("rule 5: static initialiser blocks", count(code, "\\bstatic\\s*\\{"), 0);
        Due.is("rule 6: throws in a written form", count(code, "\\bthrow new \\w+\\(0?\\);"), count(code, "\\bthrow\\b"));
        Due.is("rule 2: classes inside are static and not open",
                count(code, "(?m)^ +(private )?static final class [A-Z]"), family.size() - 1);
        for (Class<?> one : family) {
            String constructor = "(?ms)^( +)(public )?" + one.getSimpleName() + "\\(\\) \\{(?<body>.*?)^\\1\\}";
            Matcher found = Pattern.compile(constructor).matcher(code);
            while (found.find()) {
                Due.is("rule 6: throws in the constructor of " + one, count(found.group("body"), "\\bthrow\\b"), 0);
            }
        }
    }

    private static long count(String code, String pattern) {
        return Pattern.compile(pattern).matcher(code).results().count();
    }
}
