import java.io.DataInputStream;
import java.io.IOException;
import java.nio.ByteBuffer;
import java.util.ArrayList;
import java.util.HashMap;
import java.util.List;
import java.util.Map;
import java.util.Set;
import java.util.TreeMap;
import java.util.TreeSet;

/**
 * Rules of LANGUAGE.md that are seen in the compiled class: what it calls of the library, how deep its calls go, where
 * it calls itself, where it makes objects, where it throws and catches.
 */
public final class BytecodeTest {
    private static final Set<String> LIBRARY = Set.of("java/lang/Math.max", "java/lang/Math.min", "java/lang/Integer.bitCount",
        "java/lang/System.arraycopy", "java/lang/String.length", "java/lang/String.charAt", "java/lang/String.indexOf",
        "java/lang/Object.<init>", "java/util/NoSuchElementException.<init>");
    private static final Set<String> RECURSIVE = Set.of("LastCook$Law.readOver", "LastCook$Law.readPart");
    private static final String THROWS = "LastCook.rests";
    private static final int MOST_DEEP = 8;

    private static final int TABLESWITCH = 170;
    private static final int LOOKUPSWITCH = 171;
    private static final int FIRST_INVOKE = 182;
    private static final int LAST_INVOKE = 186;
    private static final int NEW = 187;
    private static final int NEWARRAY = 188;
    private static final int ANEWARRAY = 189;
    private static final int ATHROW = 191;
    private static final int MULTIANEWARRAY = 197;

    /** How long an instruction is: the first one of a row, the last one, the bytes. All others take one. */
    private static final int[][] LENGTHS = {{16, 16, 2}, {17, 17, 3}, {18, 18, 2}, {19, 20, 3}, {21, 25, 2}, {54, 58, 2},
        {132, 132, 3}, {153, 168, 3}, {169, 169, 2}, {178, 184, 3}, {185, 186, 5}, {187, 187, 3}, {188, 188, 2}, {189, 189, 3},
        {192, 193, 3}, {197, 197, 4}, {198, 199, 3}, {200, 201, 5}};

    private final Map<String, Set<String>> calls = new TreeMap<>();
    private final Map<String, Integer> depths = new HashMap<>();
    private Object[] pool = {};
    private int wrong = 0;

    public static void main(String[] args) throws IOException {
        BytecodeTest test = new BytecodeTest();
        test.readClass(LastCook.class);
        for (Class<?> inside : LastCook.class.getDeclaredClasses()) {
            test.readClass(inside);
        }
        test.lookAtCalls();
        System.out.println(test.calls.size() + " methods, " + test.wrong + " rules broken");
        if (test.wrong != 0 || test.calls.size() < 34) {
            System.exit(1);
        }
    }

    private void check(boolean right, String what) {
        if (!right) {
            wrong++;
            System.out.println("not so: " + what);
        }
    }

    private void readClass(Class<?> read) throws IOException {
        try (DataInputStream in = new DataInputStream(read.getResourceAsStream(read.getName() + ".class"))) {
            in.skipBytes(8);
            readPool(in);
            in.skipBytes(6);
            in.skipBytes(2 * in.readUnsignedShort());
            for (int fields = in.readUnsignedShort(); fields > 0; fields--) {
                readMember(in, read.getName());
            }
            for (int methods = in.readUnsignedShort(); methods > 0; methods--) {
                readMember(in, read.getName());
            }
        }
    }

    private void readPool(DataInputStream in) throws IOException {
        pool = new Object[in.readUnsignedShort()];
        for (int i = 1; i < pool.length; i++) {
            int tag = in.readUnsignedByte();
            switch (tag) {
                case 1: pool[i] = in.readUTF(); break;
                case 3: pool[i] = in.readInt(); break;
                case 4: pool[i] = in.readFloat(); break;
                case 5: pool[i] = in.readLong(); i++; break;
                case 6: pool[i] = in.readDouble(); i++; break;
                case 7: case 8: case 16: case 19: case 20: pool[i] = new int[] {in.readUnsignedShort()}; break;
                case 15: pool[i] = new int[] {in.readUnsignedByte(), in.readUnsignedShort()}; break;
                default: pool[i] = new int[] {in.readUnsignedShort(), in.readUnsignedShort()}; break;
            }
        }
    }

    private String text(int i) {
        return (String) pool[i];
    }

    /** What an entry of the pool that names others leads to. */
    private int part(int i, int which) {
        return ((int[]) pool[i])[which];
    }

    private void readMember(DataInputStream in, String owner) throws IOException {
        in.skipBytes(2);
        String name = owner + "." + text(in.readUnsignedShort());
        in.skipBytes(2);
        for (int attributes = in.readUnsignedShort(); attributes > 0; attributes--) {
            String attribute = text(in.readUnsignedShort());
            byte[] bytes = in.readNBytes(in.readInt());
            if (attribute.equals("Code")) {
                readCode(name, ByteBuffer.wrap(bytes));
            }
        }
    }

    private void readCode(String method, ByteBuffer bytes) {
        check(!calls.containsKey(method) || method.endsWith("<init>"), method + " has a name of its own");
        Set<String> called = calls.computeIfAbsent(method, m -> new TreeSet<>());
        int code = 8;
        int end = code + bytes.getInt(4);
        int at = code;
        while (at < end) {
            int instruction = bytes.get(at) & 255;
            if (instruction >= FIRST_INVOKE && instruction <= LAST_INVOKE) {
                called.add(nameOfCalled(method, instruction, bytes.getShort(at + 1) & 65535));
            }
            lookAtInstruction(method, instruction);
            at += lengthOf(instruction, bytes, at, code);
        }
        check(bytes.getShort(end) == 0, method + " catches nothing");
    }

    private String nameOfCalled(String method, int instruction, int i) {
        check(instruction != LAST_INVOKE, method + " has no lambda and joins no texts by +");
        return instruction == LAST_INVOKE ? "" : text(part(part(i, 0), 0)) + "." + text(part(part(i, 1), 0));
    }

    private void lookAtInstruction(String method, int instruction) {
        boolean makesArray = instruction == NEWARRAY || instruction == ANEWARRAY || instruction == MULTIANEWARRAY;
        check(!makesArray || method.endsWith(".<init>"), method + " makes no array");
        check(instruction != NEW || method.endsWith(".<init>") || method.equals(THROWS), method + " makes no object");
        check(instruction != ATHROW || method.equals(THROWS), method + " throws nothing");
    }

    private static int lengthOf(int instruction, ByteBuffer bytes, int at, int code) {
        int aligned = at + 4 - (at - code) % 4;
        if (instruction == TABLESWITCH) {
            return aligned - at + 12 + 4 * (bytes.getInt(aligned + 8) - bytes.getInt(aligned + 4) + 1);
        }
        if (instruction == LOOKUPSWITCH) {
            return aligned - at + 8 + 8 * bytes.getInt(aligned + 4);
        }
        for (int[] row : LENGTHS) {
            if (instruction >= row[0] && instruction <= row[1]) {
                return row[2];
            }
        }
        return 1;
    }

    private void lookAtCalls() {
        for (Map.Entry<String, Set<String>> method : calls.entrySet()) {
            for (String called : method.getValue()) {
                check(calls.containsKey(called) || LIBRARY.contains(called), method.getKey() + " calls " + called);
            }
        }
        for (String method : calls.keySet()) {
            int depth = depthOf(method, List.of());
            check(depth <= MOST_DEEP, method + " calls " + MOST_DEEP + " deep at most, but " + depth);
        }
        check(depthOf("LastCook.supper", List.of()) > RECURSIVE.size(), "supper calls others");
    }

    /** How many methods stand open at once, those of a recursion counted once each. */
    private int depthOf(String method, List<String> open) {
        Integer known = depths.get(method);
        if (known != null) {
            return known;
        }
        if (open.contains(method)) {
            check(RECURSIVE.containsAll(open.subList(open.indexOf(method), open.size())), method + " calls itself, by " + open);
            return 0;
        }
        List<String> deeper = new ArrayList<>(open);
        deeper.add(method);
        int most = 0;
        for (String called : calls.getOrDefault(method, Set.of())) {
            most = Math.max(most, calls.containsKey(called) ? depthOf(called, deeper) : 0);
        }
        // Within a recursion the depth depends on where it was entered, so it is not kept.
        if (!RECURSIVE.contains(method)) {
            depths.put(method, most + 1);
        }
        return most + 1;
    }
}
