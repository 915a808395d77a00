import java.io.DataInputStream;
import java.io.IOException;
import java.io.InputStream;
import java.util.ArrayList;
import java.util.List;

/** A compiled class: its methods, what each one calls, and the instructions that LANGUAGE.md is strict about. */
final class ClassFile {
    private static final int WIDE = 196;
    private static final int TABLE_SWITCH = 170;
    private static final int LOOKUP_SWITCH = 171;
    private static final int INCREMENT = 132;
    private static final int FIRST_CALL = 182;
    private static final int LAST_CALL = 185;
    /** From each of these opcodes on, up to the next one, an instruction has so many bytes. */
    private static final int[][] LENGTHS = {{0, 1}, {16, 2}, {17, 3}, {18, 2}, {19, 3}, {21, 2}, {26, 1}, {54, 2}, {59, 1},
        {132, 3}, {133, 1}, {153, 3}, {169, 2}, {172, 1}, {178, 3}, {185, 5}, {187, 3}, {188, 2}, {189, 3}, {190, 1},
        {192, 3}, {194, 1}, {197, 4}, {198, 3}, {200, 5}};

    /** A method by class, name and descriptor, as "Class.name(I)I". */
    record Method(String name, List<String> calls, List<Integer> opcodes, int caught) {
    }

    private final List<Method> methods = new ArrayList<>();
    private Object[] pool;
    private String name;

    private ClassFile() {
    }

    static List<Method> methodsOf(Class<?> type) throws IOException {
        ClassFile file = new ClassFile();
        String resource = type.getName().replace('.', '/') + ".class";
        try (InputStream bytes = type.getClassLoader().getResourceAsStream(resource)) {
            file.read(new DataInputStream(bytes));
        }
        return file.methods;
    }

    private void read(DataInputStream in) throws IOException {
        in.readInt();
        in.readInt();
        readPool(in);
        in.readUnsignedShort();
        name = text(in.readUnsignedShort());
        in.readUnsignedShort();
        int interfaces = in.readUnsignedShort();
        in.skipBytes(2 * interfaces);
        int fields = in.readUnsignedShort();
        for (int field = 0; field < fields; field++) {
            in.skipBytes(6);
            skipAttributes(in);
        }
        int howMany = in.readUnsignedShort();
        for (int method = 0; method < howMany; method++) {
            readMethod(in);
        }
    }

    private void readPool(DataInputStream in) throws IOException {
        pool = new Object[in.readUnsignedShort()];
        for (int index = 1; index < pool.length; index++) {
            int tag = in.readUnsignedByte();
            switch (tag) {
                case 1 -> pool[index] = in.readUTF();
                case 3, 4, 17, 18 -> in.readInt();
                case 5, 6 -> {
                    in.readLong();
                    index++;
                }
                case 7, 8, 16, 19, 20 -> pool[index] = new int[] {in.readUnsignedShort()};
                case 15 -> in.skipBytes(3);
                default -> pool[index] = new int[] {in.readUnsignedShort(), in.readUnsignedShort()};
            }
        }
    }

    /** A name; of a reference the class and the member, of a member its name and descriptor. */
    private String text(int index) {
        if (pool[index] instanceof String text) {
            return text;
        }
        int[] parts = (int[]) pool[index];
        if (parts.length == 1) {
            return text(parts[0]);
        }
        boolean isMember = pool[parts[0]] instanceof String;
        return text(parts[0]) + (isMember ? "" : ".") + text(parts[1]);
    }

    private void skipAttributes(DataInputStream in) throws IOException {
        int attributes = in.readUnsignedShort();
        for (int attribute = 0; attribute < attributes; attribute++) {
            in.readUnsignedShort();
            in.skipBytes(in.readInt());
        }
    }

    private void readMethod(DataInputStream in) throws IOException {
        in.readUnsignedShort();
        String method = name + "." + text(in.readUnsignedShort()) + text(in.readUnsignedShort());
        int attributes = in.readUnsignedShort();
        for (int attribute = 0; attribute < attributes; attribute++) {
            String kind = text(in.readUnsignedShort());
            byte[] bytes = in.readNBytes(in.readInt());
            if (kind.equals("Code")) {
                readCode(method, bytes);
            }
        }
    }

    private void readCode(String method, byte[] bytes) {
        int length = number(bytes, 4, 4);
        Method read = new Method(method, new ArrayList<>(), new ArrayList<>(), number(bytes, 8 + length, 2));
        int at = 8;
        while (at < 8 + length) {
            int opcode = bytes[at] & 255;
            read.opcodes.add(opcode);
            if (opcode >= FIRST_CALL && opcode <= LAST_CALL) {
                read.calls.add(text(number(bytes, at + 1, 2)));
            }
            at += lengthAt(bytes, at);
        }
        methods.add(read);
    }

    private static int lengthAt(byte[] bytes, int at) {
        int opcode = bytes[at] & 255;
        int aligned = at + 4 - (at - 8) % 4;
        switch (opcode) {
            case TABLE_SWITCH:
                return aligned + 12 + 4 * (number(bytes, aligned + 8, 4) - number(bytes, aligned + 4, 4) + 1) - at;
            case LOOKUP_SWITCH:
                return aligned + 8 + 8 * number(bytes, aligned + 4, 4) - at;
            case WIDE:
                return (bytes[at + 1] & 255) == INCREMENT ? 6 : 4;
            default:
                int length = 1;
                for (int[] from : LENGTHS) {
                    length = opcode >= from[0] ? from[1] : length;
                }
                return length;
        }
    }

    private static int number(byte[] bytes, int at, int length) {
        int number = 0;
        for (int place = at; place < at + length; place++) {
            number = number << 8 | bytes[place] & 255;
        }
        return number;
    }
}
