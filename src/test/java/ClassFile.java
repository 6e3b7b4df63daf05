import java.io.DataInputStream;
import java.io.IOException;
import java.io.InputStream;
import java.util.ArrayList;
import java.util.List;

/** What LanguageTest asks of a compiled class: its fields, its methods, and what their code calls and makes. */
final class ClassFile {
    static final int STATIC = 0x0008;
    static final int FINAL = 0x0010;

    static final class Member {
        int flags;
        String name;
        String type;
        /** Class, name and type of each method that is called. */
        final List<String> calls = new ArrayList<>();
        /** Classes of which objects or arrays are made; "[" for an array of numbers. */
        final List<String> made = new ArrayList<>();
        final List<Integer> codes = new ArrayList<>();
        int handlers;
        int firstLine = Integer.MAX_VALUE;
        int lastLine;
    }

    private static final int NEW = 0xbb;
    private static final int NEWARRAY = 0xbc;
    private static final int ANEWARRAY = 0xbd;
    private static final int MULTIANEWARRAY = 0xc5;
    private static final int TABLESWITCH = 0xaa;
    private static final int LOOKUPSWITCH = 0xab;
    private static final int FIRST_INVOKE = 0xb6;
    private static final int LAST_INVOKE = 0xb9;

    private final DataInputStream in;
    private String[] texts;
    private int[] firsts;
    private int[] seconds;
    final List<Member> fields = new ArrayList<>();
    final List<Member> methods = new ArrayList<>();
    final String name;

    ClassFile(Class<?> read) throws IOException {
        String file = "/" + read.getName() + ".class";
        try (InputStream stream = ClassFile.class.getResourceAsStream(file)) {
            in = new DataInputStream(stream);
            in.skipBytes(8);
            constants();
            in.skipBytes(2);
            name = className(in.readUnsignedShort());
            in.skipBytes(2);
            in.skipBytes(2 * in.readUnsignedShort());
            members(fields);
            members(methods);
        }
    }

    private void constants() throws IOException {
        int count = in.readUnsignedShort();
        texts = new String[count];
        firsts = new int[count];
        seconds = new int[count];
        for (int i = 1; i < count; i++) {
            int tag = in.readUnsignedByte();
            switch (tag) {
                case 1: texts[i] = in.readUTF(); break;
                case 3: case 4: in.skipBytes(4); break;
                case 5: case 6: in.skipBytes(8); i++; break;
                case 7: case 8: case 16: case 19: case 20: firsts[i] = in.readUnsignedShort(); break;
                case 15: in.skipBytes(3); break;
                default:
                    firsts[i] = in.readUnsignedShort();
                    seconds[i] = in.readUnsignedShort();
                    break;
            }
        }
    }

    private String className(int constant) {
        return texts[firsts[constant]];
    }

    private String called(int constant) {
        int nameAndType = seconds[constant];
        return className(firsts[constant]) + "." + texts[firsts[nameAndType]] + texts[seconds[nameAndType]];
    }

    private void members(List<Member> list) throws IOException {
        int count = in.readUnsignedShort();
        for (int i = 0; i < count; i++) {
            Member m = new Member();
            m.flags = in.readUnsignedShort();
            m.name = texts[in.readUnsignedShort()];
            m.type = texts[in.readUnsignedShort()];
            attributes(m);
            list.add(m);
        }
    }

    private void attributes(Member m) throws IOException {
        int count = in.readUnsignedShort();
        for (int i = 0; i < count; i++) {
            String kind = texts[in.readUnsignedShort()];
            int size = in.readInt();
            if (kind.equals("Code")) {
                code(m);
            } else if (kind.equals("LineNumberTable")) {
                lines(m);
            } else {
                in.skipBytes(size);
            }
        }
    }

    private void code(Member m) throws IOException {
        in.skipBytes(4);
        byte[] code = new byte[in.readInt()];
        in.readFully(code);
        int at = 0;
        while (at < code.length) {
            step(m, code, at);
            at += sizeAt(code, at);
        }
        m.handlers = in.readUnsignedShort();
        in.skipBytes(8 * m.handlers);
        attributes(m);
    }

    private void lines(Member m) throws IOException {
        int count = in.readUnsignedShort();
        for (int i = 0; i < count; i++) {
            in.skipBytes(2);
            int line = in.readUnsignedShort();
            m.firstLine = Math.min(m.firstLine, line);
            m.lastLine = Math.max(m.lastLine, line);
        }
    }

    private void step(Member m, byte[] code, int at) {
        int op = code[at] & 0xff;
        m.codes.add(op);
        if (op >= FIRST_INVOKE && op <= LAST_INVOKE) {
            m.calls.add(called(two(code, at + 1)));
        } else if (op == NEW || op == ANEWARRAY || op == MULTIANEWARRAY) {
            m.made.add(className(two(code, at + 1)));
        } else if (op == NEWARRAY) {
            m.made.add("[");
        }
    }

    private static int two(byte[] code, int at) {
        return (code[at] & 0xff) << 8 | code[at + 1] & 0xff;
    }

    private static int four(byte[] code, int at) {
        return two(code, at) << 16 | two(code, at + 2);
    }

    private static int sizeAt(byte[] code, int at) {
        int op = code[at] & 0xff;
        int table = (at + 4) / 4 * 4;
        switch (op) {
            case TABLESWITCH: return table + 12 + 4 * (four(code, table + 8) - four(code, table + 4) + 1) - at;
            case LOOKUPSWITCH: return table + 8 + 8 * four(code, table + 4) - at;
            case 0x10: case 0x12: case 0xa9: case NEWARRAY: return 2;
            case 0x11: case 0x13: case 0x14: case 0x84: return 3;
            case MULTIANEWARRAY: return 4;
            case 0xb9: case 0xba: case 0xc8: case 0xc9: return 5;
            case 0xc4: return (code[at + 1] & 0xff) == 0x84 ? 6 : 4;
            default: break;
        }
        boolean local = within(op, 0x15, 0x19) || within(op, 0x36, 0x3a);
        boolean jump = within(op, 0x99, 0xa8) || within(op, 0xc6, 0xc7);
        boolean wide = jump || within(op, 0xb2, 0xbd) || within(op, 0xc0, 0xc1);
        return local ? 2 : wide ? 3 : 1;
    }

    private static boolean within(int op, int low, int high) {
        return low <= op && op <= high;
    }
}
