import java.io.DataInputStream;
import java.io.IOException;
import java.io.InputStream;
import java.util.ArrayList;
import java.util.List;
import java.util.Map;
import java.util.Set;
import java.util.TreeMap;
import java.util.TreeSet;

/** What LanguageTest looks at in a compiled class: what it names of other classes, and its methods' lines. */
final class ClassFile {
    private static final int UTF8 = 1;
    private static final int INTEGER = 3;
    private static final int FLOAT = 4;
    private static final int LONG = 5;
    private static final int DOUBLE = 6;
    private static final int CLASS = 7;
    private static final int FIELD_REF = 9;
    private static final int METHOD_REF = 10;
    private static final int INTERFACE_METHOD_REF = 11;
    private static final int NAME_AND_TYPE = 12;
    private static final int METHOD_HANDLE = 15;
    private static final int INVOKE_DYNAMIC = 18;

    /** The fields and methods that the class uses, as owner.name:type. */
    final Set<String> used = new TreeSet<>();
    /** Lambdas, method references and texts that are joined by + are made by these. */
    int dynamic = 0;
    /** All that is caught, in all methods. */
    int caught = 0;
    /** From the first to the last line of each method that has code. */
    final Map<String, Integer> lines = new TreeMap<>();

    private final DataInputStream in;
    private int[] tags;
    private int[] firsts;
    private int[] seconds;
    private String[] texts;

    private ClassFile(InputStream bytes) throws IOException {
        in = new DataInputStream(bytes);
        in.skipNBytes(8);
        readConstants();
        in.skipNBytes(6);
        in.skipNBytes(2 * in.readUnsignedShort());
        int fields = in.readUnsignedShort();
        for (int i = 0; i < fields; i++) {
            in.skipNBytes(6);
            skipAttributes();
        }
        int methods = in.readUnsignedShort();
        for (int i = 0; i < methods; i++) {
            readMethod();
        }
    }

    static ClassFile of(Class<?> read) throws IOException {
        String name = read.getName() + ".class";
        try (InputStream bytes = read.getResourceAsStream(name)) {
            return new ClassFile(bytes);
        }
    }

    /** The class and all classes inside it. */
    static List<Class<?>> family(Class<?> outer) {
        List<Class<?>> all = new ArrayList<>();
        all.add(outer);
        for (Class<?> inside : outer.getDeclaredClasses()) {
            all.addAll(family(inside));
        }
        return all;
    }

    private void readConstants() throws IOException {
        int count = in.readUnsignedShort();
        tags = new int[count];
        firsts = new int[count];
        seconds = new int[count];
        texts = new String[count];
        for (int i = 1; i < count; i++) {
            tags[i] = in.readUnsignedByte();
            readConstant(i);
            if (tags[i] == LONG || tags[i] == DOUBLE) {
                i++;
            }
        }
        for (int i = 1; i < count; i++) {
            if (tags[i] >= FIELD_REF && tags[i] <= INTERFACE_METHOD_REF) {
                int nameAndType = seconds[i];
                used.add(texts[firsts[firsts[i]]] + "." + texts[firsts[nameAndType]] + ":"
                        + texts[seconds[nameAndType]]);
            }
            if (tags[i] >= METHOD_HANDLE && tags[i] <= INVOKE_DYNAMIC) {
                dynamic++;
            }
        }
    }

    private void readConstant(int i) throws IOException {
        switch (tags[i]) {
            case UTF8 -> texts[i] = in.readUTF();
            case LONG, DOUBLE -> in.skipNBytes(8);
            case INTEGER, FLOAT -> in.skipNBytes(4);
            case METHOD_HANDLE -> in.skipNBytes(3);
            case FIELD_REF, METHOD_REF, INTERFACE_METHOD_REF, NAME_AND_TYPE, METHOD_HANDLE + 2, INVOKE_DYNAMIC -> {
                firsts[i] = in.readUnsignedShort();
                seconds[i] = in.readUnsignedShort();
            }
            default -> firsts[i] = in.readUnsignedShort();
        }
    }

    private void skipAttributes() throws IOException {
        int count = in.readUnsignedShort();
        for (int i = 0; i < count; i++) {
            in.skipNBytes(2);
            in.skipNBytes(in.readInt());
        }
    }

    private void readMethod() throws IOException {
        in.skipNBytes(2);
        String name = texts[in.readUnsignedShort()] + texts[in.readUnsignedShort()];
        int count = in.readUnsignedShort();
        for (int i = 0; i < count; i++) {
            String attribute = texts[in.readUnsignedShort()];
            int length = in.readInt();
            if (attribute.equals("Code")) {
                readCode(name);
            } else {
                in.skipNBytes(length);
            }
        }
    }

    private void readCode(String name) throws IOException {
        in.skipNBytes(4);
        in.skipNBytes(in.readInt());
        int handlers = in.readUnsignedShort();
        caught += handlers;
        in.skipNBytes(8 * handlers);
        int count = in.readUnsignedShort();
        for (int i = 0; i < count; i++) {
            String attribute = texts[in.readUnsignedShort()];
            int length = in.readInt();
            if (attribute.equals("LineNumberTable")) {
                readLines(name);
            } else {
                in.skipNBytes(length);
            }
        }
    }

    private void readLines(String name) throws IOException {
        int count = in.readUnsignedShort();
        int first = Integer.MAX_VALUE;
        int last = 0;
        for (int i = 0; i < count; i++) {
            in.skipNBytes(2);
            int line = in.readUnsignedShort();
            first = Math.min(first, line);
            last = Math.max(last, line);
        }
        lines.put(name, last - first + 1);
    }
}
