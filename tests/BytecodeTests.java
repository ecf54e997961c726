import java.io.ByteArrayInputStream;
import java.io.DataInputStream;
import java.io.IOException;
import java.io.InputStream;
import java.util.ArrayList;
import java.util.HashSet;
import java.util.List;
import java.util.Map;
import java.util.Set;
import java.util.TreeMap;
import java.util.TreeSet;

/** Rules of ../shared/LANGUAGE.md that the text does not show, looked for in what javac makes of OnePen.java. */
public final class BytecodeTests {
    private static final int MOST_CALLS_DEEP = 8;
    /** The library that the class gets along with; LANGUAGE.md has more. */
    private static final Set<String> LIBRARY = Set.of("java/lang/Object.<init>", "java/lang/String.length", "java/lang/String.charAt",
        "java/lang/Integer.bitCount", "java/lang/Math.abs", "java/lang/Math.max", "java/lang/Math.min");
    /** These alone call themselves or one another, and each has a guard on its depth. */
    private static final Set<String> RECURSIVE = Set.of("OnePen$RuleReader.readTest", "OnePen$RuleReader.readFact",
        "OnePen$RuleReader.readNested", "OnePen$Planner.seek", "OnePen$Planner.seekAll", "OnePen$Orders.seek");

    private static final int LDC = 18;
    private static final int TABLE_SWITCH = 170;
    private static final int LOOKUP_SWITCH = 171;
    private static final int FIRST_INVOKE = 182;
    private static final int INVOKE_DYNAMIC = 186;
    private static final int NEW = 187;
    private static final int NEW_ARRAY = 188;
    private static final int NEW_OBJECT_ARRAY = 189;
    private static final int THROW = 191;
    private static final int MONITOR = 194;
    private static final int WIDE = 196;
    private static final int NEW_DEEP_ARRAY = 197;

    /** What each method calls, by CLASS.NAME. */
    private static final Map<String, Set<String>> CALLS = new TreeMap<>();
    private static int passed = 0;
    private static int failed = 0;

    private static void check(String what, boolean holds) {
        if (holds) {
            passed++;
        } else {
            failed++;
            System.out.println("not so: " + what);
        }
    }

    public static void main(String[] args) throws IOException {
        new ClassFile(OnePen.class).read();
        for (Class<?> c : OnePen.class.getDeclaredClasses()) new ClassFile(c).read();
        check("the methods were found", CALLS.size() > 130);
        Set<String> recursive = new TreeSet<>();
        for (String method : CALLS.keySet()) {
            if (reachedFrom(method).contains(method)) recursive.add(method);
        }
        check("no recursion but " + new TreeSet<>(RECURSIVE) + ", here " + recursive, recursive.equals(RECURSIVE));
        for (String method : CALLS.keySet()) {
            List<String> chain = longestFrom(method, new HashSet<>());
            check(chain + " is at most " + MOST_CALLS_DEEP + " deep", chain.size() <= MOST_CALLS_DEEP);
        }
        System.out.println(passed + " passed, " + failed + " failed");
        if (failed != 0) System.exit(1);
    }

    private static Set<String> reachedFrom(String method) {
        Set<String> reached = new HashSet<>();
        List<String> open = new ArrayList<>(CALLS.get(method));
        while (!open.isEmpty()) {
            String next = open.remove(open.size() - 1);
            if (reached.add(next)) open.addAll(CALLS.getOrDefault(next, Set.of()));
        }
        return reached;
    }

    /** No method stands twice in a chain, so that recursion counts once. */
    private static List<String> longestFrom(String method, Set<String> above) {
        List<String> longest = new ArrayList<>();
        above.add(method);
        for (String next : CALLS.get(method)) {
            if (above.contains(next)) continue;
            List<String> chain = CALLS.containsKey(next) ? longestFrom(next, above) : new ArrayList<>(List.of(next));
            if (chain.size() > longest.size()) longest = chain;
        }
        above.remove(method);
        longest.add(0, method);
        return longest;
    }

    /** One class as javac writes it. */
    private static final class ClassFile {
        private final String name;
        private final DataInputStream in;
        private String[] texts;
        /** Of a class the place of its name, of a member those of its class and of what it is called, of that the place of its name. */
        private int[] first;
        private int[] second;

        ClassFile(Class<?> c) throws IOException {
            name = c.getName();
            try (InputStream file = c.getResourceAsStream("/" + name + ".class")) {
                in = new DataInputStream(new ByteArrayInputStream(file.readAllBytes()));
            }
        }

        void read() throws IOException {
            in.skipBytes(8);
            readConstants();
            in.skipBytes(6);
            in.skipBytes(2 * in.readUnsignedShort());
            readMembers(false);
            readMembers(true);
        }

        private void readConstants() throws IOException {
            int many = in.readUnsignedShort();
            texts = new String[many];
            first = new int[many];
            second = new int[many];
            for (int k = 1; k < many; k++) {
                int tag = in.readUnsignedByte();
                switch (tag) {
                    case 1 -> texts[k] = in.readUTF();
                    case 3, 4 -> in.skipBytes(4);
                    case 5, 6 -> {
                        in.skipBytes(8);
                        k++;
                    }
                    case 7, 8, 16, 19, 20 -> first[k] = in.readUnsignedShort();
                    case 9, 10, 11, 12, 17, 18 -> {
                        first[k] = in.readUnsignedShort();
                        second[k] = in.readUnsignedShort();
                    }
                    case 15 -> in.skipBytes(3);
                    default -> throw new IOException("constant " + tag + " in " + name);
                }
            }
        }

        private void readMembers(boolean methods) throws IOException {
            int many = in.readUnsignedShort();
            for (int k = 0; k < many; k++) {
                in.skipBytes(2);
                String method = texts[in.readUnsignedShort()];
                in.skipBytes(2);
                if (methods) CALLS.computeIfAbsent(name + "." + method, m -> new TreeSet<>());
                int attributes = in.readUnsignedShort();
                for (int a = 0; a < attributes; a++) {
                    String attribute = texts[in.readUnsignedShort()];
                    byte[] bytes = new byte[in.readInt()];
                    in.readFully(bytes);
                    if (methods && attribute.equals("Code")) readCode(method, bytes);
                }
            }
        }

        private void readCode(String method, byte[] bytes) throws IOException {
            DataInputStream code = new DataInputStream(new ByteArrayInputStream(bytes));
            code.skipBytes(4);
            byte[] steps = new byte[code.readInt()];
            code.readFully(steps);
            check(name + "." + method + " catches nothing", code.readUnsignedShort() == 0);
            boolean makes = false;
            boolean throwsOrLocks = false;
            for (int at = 0; at < steps.length; at += length(steps, at)) {
                int op = steps[at] & 255;
                makes |= op == NEW || op == NEW_ARRAY || op == NEW_OBJECT_ARRAY || op == NEW_DEEP_ARRAY;
                throwsOrLocks |= op == THROW || op == MONITOR || op == INVOKE_DYNAMIC;
                if (op >= FIRST_INVOKE && op < INVOKE_DYNAMIC) noteCall(method, number(steps, at + 1, 2));
            }
            check(name + "." + method + " makes nothing, or is a constructor", !makes || method.equals("<init>"));
            check(name + "." + method + " throws nothing, locks nothing, is no lambda's", !throwsOrLocks);
        }

        private void noteCall(String method, int member) {
            String owner = texts[first[first[member]]];
            String called = owner + "." + texts[first[second[member]]];
            CALLS.get(name + "." + method).add(called);
            if (!owner.startsWith("OnePen")) {
                check(name + "." + method + " calls " + called + ", which stands in the library", LIBRARY.contains(called));
            }
        }

        private static int number(byte[] steps, int at, int bytes) {
            int number = 0;
            for (int k = 0; k < bytes; k++) number = number << 8 | steps[at + k] & 255;
            return number;
        }

        /** How many bytes a step has, as the Java machine's specification tells. */
        private static int length(byte[] steps, int at) {
            int op = steps[at] & 255;
            int aligned = (at / 4 + 1) * 4;
            if (op == TABLE_SWITCH) return aligned + 12 + 4 * (number(steps, aligned + 8, 4) - number(steps, aligned + 4, 4) + 1) - at;
            if (op == LOOKUP_SWITCH) return aligned + 8 + 8 * number(steps, aligned + 4, 4) - at;
            if (op == WIDE) return (steps[at + 1] & 255) == 132 ? 6 : 4;
            if (op == 16 || op == LDC || op >= 21 && op <= 25 || op >= 54 && op <= 58 || op == 169 || op == NEW_ARRAY) return 2;
            if (op == 185 || op == INVOKE_DYNAMIC || op >= 200) return 5;
            if (op == NEW_DEEP_ARRAY) return 4;
            boolean three = op == 17 || op == 19 || op == 20 || op == 132 || op >= 153 && op <= 168 || op >= 178 && op <= NEW
                || op == NEW_OBJECT_ARRAY || op == 192 || op == 193 || op == 198 || op == 199;
            return three ? 3 : 1;
        }
    }
}
