import java.io.ByteArrayInputStream;
import java.io.DataInputStream;
import java.io.IOException;
import java.io.InputStream;
import java.nio.ByteBuffer;
import java.util.ArrayList;
import java.util.List;
import java.util.TreeMap;

/** What the program is compiled to: of each of its methods, what it calls and what it makes. */
final class Compiled {
    private static final int INVOKE_FIRST = 182, INVOKE_DYNAMIC = 186, NEW = 187, NEW_ARRAY = 188, NEW_ROW = 189;
    private static final int THROW = 191, CAST = 192, INSTANCE_OF = 193, NEW_ROWS = 197;
    private static final int TABLE_SWITCH = 170, LOOKUP_SWITCH = 171, WIDE = 196, INCREMENT = 132;

    /** A method: the full names of the methods that it calls, and counts of some instructions. */
    static final class Method {
        final List<String> calls = new ArrayList<>();
        int made = 0;
        int thrown = 0;
        int caught = 0;
        int casts = 0;
    }

    private final TreeMap<String, Method> methods = new TreeMap<>();

    // The pool of the class that is read: a text, or the numbers of other places.
    private String[] texts;
    private int[] firsts;
    private int[] seconds;
    private String owner = "";

    private Compiled() {
    }

    /** The methods of a class and of the classes inside it, by their full names. */
    static TreeMap<String, Method> methodsOf(Class<?> outer) throws IOException {
        Compiled compiled = new Compiled();
        compiled.readClass(outer);
        for (Class<?> inner : outer.getDeclaredClasses()) {
            compiled.readClass(inner);
        }
        return compiled.methods;
    }

    private void readClass(Class<?> type) throws IOException {
        owner = type.getName();
        try (InputStream file = type.getResourceAsStream(owner + ".class");
            DataInputStream in = new DataInputStream(new ByteArrayInputStream(file.readAllBytes()))) {
            in.skipBytes(8);
            readPool(in);
            in.skipBytes(6);
            in.skipBytes(2 * in.readUnsignedShort());
            readMembers(in);
            readMembers(in);
        }
    }

    private void readPool(DataInputStream in) throws IOException {
        int places = in.readUnsignedShort();
        texts = new String[places];
        firsts = new int[places];
        seconds = new int[places];
        for (int place = 1; place < places; place++) {
            int tag = in.readUnsignedByte();
            switch (tag) {
                case 1 -> texts[place] = in.readUTF();
                case 3, 4 -> in.skipBytes(4);
                case 5, 6 -> {
                    in.skipBytes(8);
                    // A number of two words takes two places.
                    place++;
                }
                case 7, 8, 16, 19, 20 -> firsts[place] = in.readUnsignedShort();
                case 15 -> in.skipBytes(3);
                default -> {
                    firsts[place] = in.readUnsignedShort();
                    seconds[place] = in.readUnsignedShort();
                }
            }
        }
    }

    // Fields and methods are told alike; fields have no code.
    private void readMembers(DataInputStream in) throws IOException {
        for (int left = in.readUnsignedShort(); left > 0; left--) {
            in.skipBytes(2);
            String name = owner + "." + texts[in.readUnsignedShort()] + texts[in.readUnsignedShort()];
            for (int attributes = in.readUnsignedShort(); attributes > 0; attributes--) {
                String attribute = texts[in.readUnsignedShort()];
                byte[] bytes = in.readNBytes(in.readInt());
                if (attribute.equals("Code")) {
                    methods.put(name, readCode(ByteBuffer.wrap(bytes)));
                }
            }
        }
    }

    private Method readCode(ByteBuffer bytes) {
        Method method = new Method();
        int length = bytes.getInt(4);
        ByteBuffer code = bytes.slice(8, length);
        for (int at = 0; at < length; at += lengthAt(code, at)) {
            note(method, code, at);
        }
        method.caught = bytes.getShort(8 + length);
        return method;
    }

    private void note(Method method, ByteBuffer code, int at) {
        int what = code.get(at) & 255;
        if (what >= INVOKE_FIRST && what < INVOKE_DYNAMIC) {
            method.calls.add(called(code.getShort(at + 1) & 65535));
        } else if (what == INVOKE_DYNAMIC) {
            method.calls.add("by invokedynamic");
        } else if (what == NEW || what == NEW_ARRAY || what == NEW_ROW || what == NEW_ROWS) {
            method.made++;
        } else if (what == THROW) {
            method.thrown++;
        } else if (what == CAST || what == INSTANCE_OF) {
            method.casts++;
        }
    }

    private String called(int place) {
        int nameAndType = seconds[place];
        String type = texts[firsts[firsts[place]]].replace('/', '.');
        return type + "." + texts[firsts[nameAndType]] + texts[seconds[nameAndType]];
    }

    private static int lengthAt(ByteBuffer code, int at) {
        int what = code.get(at) & 255;
        int numbers = (at + 4) / 4 * 4;
        if (what == TABLE_SWITCH) {
            return numbers - at + 12 + 4 * (code.getInt(numbers + 8) - code.getInt(numbers + 4) + 1);
        }
        if (what == LOOKUP_SWITCH) {
            return numbers - at + 8 + 8 * code.getInt(numbers + 4);
        }
        if (what == WIDE) {
            return code.get(at + 1) == (byte) INCREMENT ? 6 : 4;
        }
        return length(what);
    }

    private static int length(int what) {
        if (what == 16 || what == 18 || isOf(what, 21, 25) || isOf(what, 54, 58) || what == 169 || what == NEW_ARRAY) {
            return 2;
        }
        if (what == 17 || what == 19 || what == 20 || what == INCREMENT || isOf(what, 153, 168) || isOf(what, 178, 184)
            || what == NEW || what == NEW_ROW || what == CAST || what == INSTANCE_OF || isOf(what, 198, 199)) {
            return 3;
        }
        if (what == NEW_ROWS) {
            return 4;
        }
        return isOf(what, 185, INVOKE_DYNAMIC) || isOf(what, 200, 201) ? 5 : 1;
    }

    private static boolean isOf(int what, int first, int last) {
        return what >= first && what <= last;
    }
}
