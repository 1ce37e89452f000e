import java.io.DataInputStream;
import java.io.IOException;
import java.io.InputStream;
import java.util.ArrayList;
import java.util.List;

/** One compiled class, as its file tells it: its methods with their instructions, and the members that it uses. */
final class ClassCode {
    static final int NEW = 187, NEW_ROW = 188, NEW_OBJECTS = 189, THROW = 191, CAST = 192, LOCK = 194, ROWS_OF_ROWS = 197;
    private static final int INVOKE_FIRST = 182, INVOKE_LAST = 185, TABLE = 170, LOOKUP = 171, WIDE = 196, COUNT_UP = 132;
    // The bytes of each instruction from 0 to 201; 0 where it depends on what follows.
    private static final String LENGTHS = "1".repeat(16) + "23" + "233" + "2".repeat(5) + "1".repeat(28) + "2".repeat(5)
        + "1".repeat(73) + "3" + "1".repeat(20) + "3".repeat(16) + "2" + "00" + "1".repeat(6) + "3".repeat(7) + "55" + "3" + "2"
        + "3" + "1" + "1" + "33" + "11" + "0" + "4" + "33" + "55";

    /** One method: what it calls, as "class.name types", its instructions, and how many lines it has. */
    static final class Body {
        String name;
        final List<String> calls = new ArrayList<>();
        final List<Integer> instructions = new ArrayList<>();
        int catches;
        int lines;
    }

    final String name;
    final List<Body> bodies = new ArrayList<>();
    /** Each method and field that is used, as "class.name". */
    final List<String> used = new ArrayList<>();
    private final DataInputStream in;
    private String[] texts;
    private int[][] pairs;

    ClassCode(Class<?> one) throws IOException {
        name = one.getName();
        try (InputStream file = one.getResourceAsStream(name + ".class")) {
            in = new DataInputStream(file);
            in.skipBytes(8);
            readPool();
            in.skipBytes(6);
            in.skipBytes(2 * in.readUnsignedShort());
            readMembers(false);
            readMembers(true);
        }
        for (int[] pair : pairs) {
            if (pair != null && pair[0] >= 9 && pair[0] <= 11) {
                used.add(texts[pairs[pair[1]][1]] + "." + texts[pairs[pair[2]][1]]);
            }
        }
    }

    private void readPool() throws IOException {
        int size = in.readUnsignedShort();
        texts = new String[size];
        pairs = new int[size][];
        for (int index = 1; index < size; index++) {
            int tag = in.readUnsignedByte();
            switch (tag) {
                case 1: texts[index] = in.readUTF(); break;
                case 3: case 4: in.readInt(); break;
                case 5: case 6: in.readLong(); index++; break;
                case 7: case 8: case 16: pairs[index] = new int[] {tag, in.readUnsignedShort(), 0}; break;
                case 9: case 10: case 11: case 12: pairs[index] = new int[] {tag, in.readUnsignedShort(), in.readUnsignedShort()}; break;
                default: throw new IOException("a lambda, or joined texts, in " + name);
            }
        }
    }

    private void readMembers(boolean areMethods) throws IOException {
        int members = in.readUnsignedShort();
        for (int member = 0; member < members; member++) {
            in.skipBytes(2);
            Body body = new Body();
            body.name = name + "." + texts[in.readUnsignedShort()] + " " + texts[in.readUnsignedShort()];
            int attributes = in.readUnsignedShort();
            for (int attribute = 0; attribute < attributes; attribute++) {
                boolean isCode = texts[in.readUnsignedShort()].equals("Code");
                int length = in.readInt();
                if (isCode) {
                    readCode(body);
                } else {
                    in.skipBytes(length);
                }
            }
            if (areMethods) {
                bodies.add(body);
            }
        }
    }

    private void readCode(Body body) throws IOException {
        in.skipBytes(4);
        byte[] code = new byte[in.readInt()];
        in.readFully(code);
        int at = 0;
        while (at < code.length) {
            int instruction = code[at] & 255;
            body.instructions.add(instruction);
            if (instruction >= INVOKE_FIRST && instruction <= INVOKE_LAST) {
                int[] member = pairs[short16(code, at + 1)];
                int[] told = pairs[member[2]];
                body.calls.add(texts[pairs[member[1]][1]] + "." + texts[told[1]] + " " + texts[told[2]]);
            }
            at += lengthOf(code, at);
        }
        body.catches = in.readUnsignedShort();
        in.skipBytes(8 * body.catches);
        int attributes = in.readUnsignedShort();
        for (int attribute = 0; attribute < attributes; attribute++) {
            readLines(body);
        }
    }

    private void readLines(Body body) throws IOException {
        boolean areLines = texts[in.readUnsignedShort()].equals("LineNumberTable");
        int length = in.readInt();
        if (!areLines) {
            in.skipBytes(length);
            return;
        }
        int rows = in.readUnsignedShort();
        int least = Integer.MAX_VALUE;
        int most = 0;
        for (int row = 0; row < rows; row++) {
            in.skipBytes(2);
            int line = in.readUnsignedShort();
            least = Math.min(least, line);
            most = Math.max(most, line);
        }
        body.lines = most - least + 1;
    }

    private static int lengthOf(byte[] code, int at) {
        int instruction = code[at] & 255;
        int aligned = at / 4 * 4 + 4;
        switch (instruction) {
            case TABLE: return aligned + 12 + 4 * (int32(code, aligned + 8) - int32(code, aligned + 4) + 1) - at;
            case LOOKUP: return aligned + 8 + 8 * int32(code, aligned + 4) - at;
            case WIDE: return (code[at + 1] & 255) == COUNT_UP ? 6 : 4;
            default: return LENGTHS.charAt(instruction) - '0';
        }
    }

    private static int short16(byte[] code, int at) {
        return (code[at] & 255) << 8 | code[at + 1] & 255;
    }

    private static int int32(byte[] code, int at) {
        return short16(code, at) << 16 | short16(code, at + 2);
    }
}
