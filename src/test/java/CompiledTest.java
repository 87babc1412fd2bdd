import java.io.DataInputStream;
import java.io.IOException;
import java.io.InputStream;
import java.lang.reflect.Method;
import java.lang.reflect.Modifier;
import java.util.ArrayList;
import java.util.Arrays;
import java.util.List;
import java.util.Map;
import java.util.TreeMap;
import java.util.TreeSet;

/**
 * Rules of LANGUAGE.md that the compiled class shows, and its text does not so well: what it calls of the library, how
 * deep its calls go, where it makes objects, what it divides by, and that nothing in it throws or catches.
 */
public final class CompiledTest extends Due {
    private static final int DEEPEST = 8;
    private static final TreeSet<String> LIBRARY = new TreeSet<>(Arrays.asList("java/lang/Object.<init>",
            "java/lang/System.arraycopy", "java/util/Arrays.fill", "java/lang/Math.min", "java/lang/Math.max"));
    /** Both look at the divisor, the length of a row, in the same line. */
    private static final TreeSet<String> TESTED_DIVISORS = new TreeSet<>(Arrays.asList(
            "CloudStrings$Winds.sideIn", "CloudStrings$Winds.forceIn"));

    private static final int TABLESWITCH = 0xaa, LOOKUPSWITCH = 0xab, WIDE = 0xc4;
    private static final int PUTSTATIC = 0xb3, INVOKEVIRTUAL = 0xb6, INVOKESTATIC = 0xb8, INVOKEINTERFACE = 0xb9;
    private static final int INVOKEDYNAMIC = 0xba, NEW = 0xbb, ANEWARRAY = 0xbd, MULTIANEWARRAY = 0xc5;
    private static final int ATHROW = 0xbf, CHECKCAST = 0xc0, MONITOREXIT = 0xc3;
    private static final int IDIV = 0x6c, LREM = 0x71, ICONST_1 = 0x04, ICONST_5 = 0x08, BIPUSH = 0x10, LDC = 0x12;

    /** What one method calls; methods are told by owner, name and type. */
    private static final Map<String, List<String>> calls = new TreeMap<>();
    private static int classes = 0;
    private static int divisions = 0;
    private static int made = 0;

    public static void main(String[] args) throws IOException {
        read("CloudStrings");
        for (Class<?> inside : CloudStrings.class.getDeclaredClasses()) {
            read(inside.getName());
        }
        due("classes that were read", 1 + CloudStrings.class.getDeclaredClasses().length, classes);
        due("rule 11: some twelve classes", true, classes <= 12);
        due("rule 12: objects are made", true, made > 20);
        due("rule 7: there are divisions", true, divisions > 4);
        depths();
        end();
    }

    private static void depths() {
        int seen = 0;
        for (Method m : CloudStrings.class.getDeclaredMethods()) {
            if (!Modifier.isPublic(m.getModifiers())) {
                continue;
            }
            seen++;
            for (String call : calls.keySet()) {
                if (call.startsWith("CloudStrings." + m.getName() + "(")) {
                    int deep = depthOf(call, new ArrayList<>());
                    due("rule 11: " + call + " goes " + deep + " deep", true, deep <= DEEPEST);
                }
            }
        }
        due("calls of the face", 29, seen);
    }

    /** How many methods of the program are open at once, at most; a method that comes to itself is told. */
    private static int depthOf(String method, List<String> open) {
        due("rule 8: no recursion, " + method + " behind " + open, false, open.contains(method));
        if (open.contains(method)) {
            return 0;
        }
        open.add(method);
        int deepest = 0;
        for (String called : calls.get(method)) {
            if (calls.containsKey(called)) {
                deepest = Math.max(deepest, depthOf(called, open));
            }
        }
        open.remove(method);
        return 1 + deepest;
    }

    private static void read(String name) throws IOException {
        classes++;
        try (InputStream file = CompiledTest.class.getResourceAsStream(name + ".class")) {
            DataInputStream in = new DataInputStream(file);
            in.skipBytes(8);
            String[] pool = readPool(in);
            in.skipBytes(6);
            in.skipBytes(2 * in.readUnsignedShort());
            int fields = in.readUnsignedShort();
            for (int f = 0; f < fields; f++) {
                in.skipBytes(6);
                skipAttributes(in);
            }
            int methods = in.readUnsignedShort();
            for (int m = 0; m < methods; m++) {
                readMethod(in, name, pool);
            }
        }
    }

    /** Of what is called, owner, name and type together; of classes the name; of numbers nothing. */
    private static String[] readPool(DataInputStream in) throws IOException {
        int size = in.readUnsignedShort();
        String[] texts = new String[size];
        int[][] parts = new int[size][];
        for (int i = 1; i < size; i++) {
            int tag = in.readUnsignedByte();
            if (tag == 1) {
                texts[i] = in.readUTF();
            } else if (tag == 7 || tag == 8 || tag == 16 || tag == 19 || tag == 20) {
                parts[i] = new int[] {tag, in.readUnsignedShort(), 0};
            } else if (tag == 15) {
                in.skipBytes(3);
            } else if (tag == 5 || tag == 6) {
                in.skipBytes(8);
                i++;
            } else {
                parts[i] = new int[] {tag, in.readUnsignedShort(), in.readUnsignedShort()};
            }
        }
        String[] pool = new String[size];
        for (int i = 1; i < size; i++) {
            pool[i] = textOf(texts, parts, i);
        }
        return pool;
    }

    private static String textOf(String[] texts, int[][] parts, int i) {
        if (parts[i] == null) {
            return texts[i] == null ? "" : texts[i];
        }
        int tag = parts[i][0];
        String first = tag == 3 || tag == 4 || tag == 17 || tag == 18 ? "" : textOf(texts, parts, parts[i][1]);
        if (tag >= 9 && tag <= 11) {
            return first + "." + textOf(texts, parts, parts[i][2]);
        }
        return tag == 12 ? first + textOf(texts, parts, parts[i][2]) : first;
    }

    private static void skipAttributes(DataInputStream in) throws IOException {
        int attributes = in.readUnsignedShort();
        for (int a = 0; a < attributes; a++) {
            in.skipBytes(2);
            in.skipBytes(in.readInt());
        }
    }

    private static void readMethod(DataInputStream in, String owner, String[] pool) throws IOException {
        in.skipBytes(2);
        String name = owner + "." + pool[in.readUnsignedShort()];
        String key = name + pool[in.readUnsignedShort()];
        int attributes = in.readUnsignedShort();
        for (int a = 0; a < attributes; a++) {
            boolean isCode = pool[in.readUnsignedShort()].equals("Code");
            int length = in.readInt();
            if (!isCode) {
                in.skipBytes(length);
                continue;
            }
            in.skipBytes(4);
            byte[] code = new byte[in.readInt()];
            in.readFully(code);
            int catches = in.readUnsignedShort();
            due("rule 6: " + name + " catches nothing", 0, catches);
            in.skipBytes(8 * catches);
            skipAttributes(in);
            calls.put(key, new ArrayList<>());
            readCode(name, key, code, pool);
        }
    }

    private static void readCode(String name, String key, byte[] code, String[] pool) {
        boolean isOfConstructor = name.endsWith(".<init>") || name.endsWith(".<clinit>");
        int before = 0;
        for (int at = 0; at < code.length; ) {
            int op = code[at] & 255;
            if (op >= INVOKEVIRTUAL && op <= INVOKEINTERFACE) {
                readCall(name, key, op, pool[pair(code, at + 1)]);
            } else if (op >= NEW && op <= ANEWARRAY || op == MULTIANEWARRAY) {
                made++;
                due("rule 12, kept by making all with the object: " + name + " makes objects", true, isOfConstructor);
            } else if (op >= IDIV && op <= LREM && op != 0x6e && op != 0x6f) {
                divisions++;
                boolean isConstant = before > ICONST_1 && before <= ICONST_5 || before == BIPUSH || before == LDC;
                due("rule 7: " + name + " divides by what is not 0", true, isConstant || TESTED_DIVISORS.contains(name));
            } else if (op == PUTSTATIC) {
                due("rule 5: " + name + " sets what is static", true, name.endsWith(".<clinit>"));
            }
            due("rule 6: " + name + " has no lambda", false, op == INVOKEDYNAMIC);
            due("rule 6: " + name + " throws, casts, locks", false, op == ATHROW || op >= CHECKCAST && op <= MONITOREXIT);
            before = op;
            at += lengthOf(code, at);
        }
    }

    private static void readCall(String name, String key, int op, String called) {
        String bare = called.substring(0, called.indexOf('('));
        boolean isOwn = bare.startsWith("CloudStrings");
        due("rule 4: " + name + " calls " + bare, true, isOwn || LIBRARY.contains(bare));
        due("depths are told of calls without interfaces: " + bare, false, op == INVOKEINTERFACE);
        due("rule 1: " + name + " calls its own face", false, bare.startsWith("CloudStrings.") && op == INVOKEVIRTUAL);
        if (name.endsWith(".<init>")) {
            due("rule 12: " + name + " calls " + bare, true, bare.endsWith(".<init>"));
        }
        calls.get(key).add(called);
    }

    private static int pair(byte[] code, int at) {
        return (code[at] & 255) << 8 | code[at + 1] & 255;
    }

    private static int four(byte[] code, int at) {
        return pair(code, at) << 16 | pair(code, at + 2);
    }

    private static int lengthOf(byte[] code, int at) {
        int op = code[at] & 255;
        int behind = at + 4 - at % 4;
        if (op == TABLESWITCH) {
            return behind + 12 + 4 * (four(code, behind + 8) - four(code, behind + 4) + 1) - at;
        }
        if (op == LOOKUPSWITCH) {
            return behind + 8 + 8 * four(code, behind + 4) - at;
        }
        if (op == WIDE) {
            return (code[at + 1] & 255) == 0x84 ? 6 : 4;
        }
        boolean isTwo = op == BIPUSH || op == LDC || op >= 0x15 && op <= 0x19 || op >= 0x36 && op <= 0x3a
                || op == 0xa9 || op == 0xbc;
        boolean isThree = op == 0x11 || op == 0x13 || op == 0x14 || op == 0x84 || op >= 0x99 && op <= 0xa8
                || op >= 0xb2 && op <= INVOKESTATIC || op == NEW || op == ANEWARRAY || op == CHECKCAST || op == 0xc1
                || op == 0xc6 || op == 0xc7;
        boolean isFive = op == INVOKEINTERFACE || op == INVOKEDYNAMIC || op == 0xc8 || op == 0xc9;
        return isTwo ? 2 : isThree ? 3 : op == MULTIANEWARRAY ? 4 : isFive ? 5 : 1;
    }
}
