import java.io.DataInputStream;
import java.io.IOException;
import java.io.InputStream;
import java.util.ArrayList;
import java.util.List;

/** What a test reads out of a compiled class: its fields, its methods, and each step of their code. */
final class ClassFile {
    /** A field, or a method with its code. */
    static final class Member {
        final int flags;
        final String name;
        final String type;
        final List<Step> steps = new ArrayList<>();
        boolean hasConstant = false;
        int catches = 0;
        int firstLine = Integer.MAX_VALUE;
        int lastLine = 0;

        Member(int flags, String name, String type) {
            this.flags = flags;
            this.name = name;
            this.type = type;
        }

        boolean isStatic() {
            return (flags & 8) != 0;
        }
    }

    /** One instruction: its code, and what it names (a method or a class), or the number that it pushes. */
    static final class Step {
        final int code;
        final String named;
        final int pushed;

        Step(int code, String named, int pushed) {
            this.code = code;
            this.named = named;
            this.pushed = pushed;
        }

        boolean calls() {
            return code >= 182 && code <= 185;
        }

        boolean makes() {
            return code >= 187 && code <= 189 || code == 197;
        }
    }

    // How many bytes stand behind each instruction; two of them tell it themselves.
    private static final int[] ONE_BEHIND = {16, 18, 169, 188};
    private static final int[] TWO_BEHIND = {17, 19, 20, 132, 178, 179, 180, 181, 182, 183, 184, 187, 189, 192, 193, 198, 199};
    private static final int[] FOUR_BEHIND = {185, 186, 200, 201};
    private static final int TABLE = 170;
    private static final int LOOKUP = 171;

    final String name;
    final List<Member> fields = new ArrayList<>();
    final List<Member> methods = new ArrayList<>();
    final int[] tags;
    private final int[] firsts;
    private final int[] seconds;
    private final String[] texts;
    private DataInputStream in;

    ClassFile(Class<?> type) throws IOException {
        name = type.getName();
        try (InputStream bytes = type.getResourceAsStream(name + ".class"); DataInputStream data = new DataInputStream(bytes)) {
            in = data;
            in.readInt();
            in.readInt();
            int size = in.readUnsignedShort();
            tags = new int[size];
            firsts = new int[size];
            seconds = new int[size];
            texts = new String[size];
            readConstants();
            in.readUnsignedShort();
            in.readUnsignedShort();
            in.readUnsignedShort();
            in.skipBytes(2 * in.readUnsignedShort());
            readMembers(fields);
            readMembers(methods);
        }
    }

    private void readConstants() throws IOException {
        for (int i = 1; i < tags.length; i++) {
            tags[i] = in.readUnsignedByte();
            switch (tags[i]) {
                case 1: texts[i] = in.readUTF(); break;
                case 3: firsts[i] = in.readInt(); break;
                case 4: in.readInt(); break;
                case 5: case 6: in.readLong(); i++; break;
                case 7: case 8: case 16: case 19: case 20: firsts[i] = in.readUnsignedShort(); break;
                case 15: in.readUnsignedByte(); in.readUnsignedShort(); break;
                default: firsts[i] = in.readUnsignedShort(); seconds[i] = in.readUnsignedShort(); break;
            }
        }
    }

    /** What a constant names: a class, or the class, name and type of a method or field. */
    String named(int i) {
        if (tags[i] == 7) {
            return texts[firsts[i]];
        }
        if (tags[i] < 9 || tags[i] > 11) {
            return "";
        }
        int and = seconds[i];
        return texts[firsts[firsts[i]]] + "." + texts[firsts[and]] + texts[seconds[and]];
    }

    private void readMembers(List<Member> members) throws IOException {
        int many = in.readUnsignedShort();
        for (int i = 0; i < many; i++) {
            Member member = new Member(in.readUnsignedShort(), texts[in.readUnsignedShort()], texts[in.readUnsignedShort()]);
            members.add(member);
            int attributes = in.readUnsignedShort();
            for (int k = 0; k < attributes; k++) {
                String kind = texts[in.readUnsignedShort()];
                int length = in.readInt();
                member.hasConstant |= kind.equals("ConstantValue");
                if (kind.equals("Code")) {
                    readCode(member);
                } else {
                    in.skipBytes(length);
                }
            }
        }
    }

    private void readCode(Member method) throws IOException {
        in.readInt();
        byte[] code = new byte[in.readInt()];
        in.readFully(code);
        for (int at = 0; at < code.length; at += 1 + behind(code, at)) {
            method.steps.add(step(code, at));
        }
        method.catches = in.readUnsignedShort();
        in.skipBytes(8 * method.catches);
        int attributes = in.readUnsignedShort();
        for (int k = 0; k < attributes; k++) {
            String kind = texts[in.readUnsignedShort()];
            int length = in.readInt();
            if (kind.equals("LineNumberTable")) {
                for (int lines = in.readUnsignedShort(); lines > 0; lines--) {
                    in.readUnsignedShort();
                    int line = in.readUnsignedShort();
                    method.firstLine = Math.min(method.firstLine, line);
                    method.lastLine = Math.max(method.lastLine, line);
                }
            } else {
                in.skipBytes(length);
            }
        }
    }

    private static int four(byte[] code, int at) {
        return two(code, at) << 16 | two(code, at + 2);
    }

    private static int two(byte[] code, int at) {
        return (code[at] & 255) << 8 | code[at + 1] & 255;
    }

    private static boolean isOf(int[] codes, int code) {
        for (int one : codes) {
            if (one == code) {
                return true;
            }
        }
        return false;
    }

    private static int behind(byte[] code, int at) {
        int what = code[at] & 255;
        if (what == TABLE || what == LOOKUP) {
            int fill = 3 - at % 4;
            int start = at + 1 + fill + 4;
            int rows = what == TABLE ? four(code, start + 4) - four(code, start) + 1 : 2 * four(code, start);
            return fill + (what == TABLE ? 12 : 8) + 4 * rows;
        }
        if (what == 196) {
            return (code[at + 1] & 255) == 132 ? 5 : 3;
        }
        if (what == 197) {
            return 3;
        }
        if (isOf(FOUR_BEHIND, what)) {
            return 4;
        }
        if (isOf(ONE_BEHIND, what) || what >= 21 && what <= 25 || what >= 54 && what <= 58) {
            return 1;
        }
        return isOf(TWO_BEHIND, what) || what >= 153 && what <= 168 ? 2 : 0;
    }

    private Step step(byte[] code, int at) {
        int what = code[at] & 255;
        if (what >= 182 && what <= 187 || what == 189 || what == 192 || what == 193 || what == 197) {
            return new Step(what, named(two(code, at + 1)), 0);
        }
        if (what >= 2 && what <= 8) {
            return new Step(what, "", what - 3);
        }
        if (what == 9 || what == 10) {
            return new Step(what, "", what - 9);
        }
        if (what == 16) {
            return new Step(what, "", code[at + 1]);
        }
        if (what == 17) {
            return new Step(what, "", (short) two(code, at + 1));
        }
        return new Step(what, "", what == 18 ? firsts[code[at + 1] & 255] : what == 19 ? firsts[two(code, at + 1)] : 0);
    }
}
