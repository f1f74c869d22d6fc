import java.io.DataInputStream;
import java.io.IOException;
import java.util.Set;
import java.util.TreeSet;

/** What a class file names: the fields and methods that the class uses, of its own and of others. */
final class ConstantPool {
    private static final int TEXT = 1;
    private static final int INT = 3;
    private static final int FLOAT = 4;
    private static final int LONG = 5;
    private static final int DOUBLE = 6;
    private static final int CLASS = 7;
    private static final int STRING = 8;
    private static final int FIELD = 9;
    private static final int METHOD = 10;
    private static final int INTERFACE_METHOD = 11;
    private static final int NAME_AND_TYPE = 12;

    private final int[] tags;
    private final int[] firsts;
    private final int[] seconds;
    private final String[] texts;

    private ConstantPool(int size) {
        tags = new int[size];
        firsts = new int[size];
        seconds = new int[size];
        texts = new String[size];
    }

    static ConstantPool of(Class<?> named) throws IOException {
        try (DataInputStream in = new DataInputStream(named.getResourceAsStream(named.getSimpleName() + ".class"))) {
            in.skipNBytes(8);
            ConstantPool pool = new ConstantPool(in.readUnsignedShort());
            pool.read(in);
            return pool;
        }
    }

    private void read(DataInputStream in) throws IOException {
        for (int i = 1; i < tags.length; i++) {
            tags[i] = in.readUnsignedByte();
            switch (tags[i]) {
                case TEXT -> texts[i] = in.readUTF();
                case INT, FLOAT -> in.readInt();
                case LONG, DOUBLE -> {
                    in.readLong();
                    i++;
                }
                case CLASS, STRING -> firsts[i] = in.readUnsignedShort();
                case FIELD, METHOD, INTERFACE_METHOD, NAME_AND_TYPE -> {
                    firsts[i] = in.readUnsignedShort();
                    seconds[i] = in.readUnsignedShort();
                }
                default -> throw new IOException("a lambda, a method reference or texts joined by +");
            }
        }
    }

    /** Each as class, name and type. */
    Set<String> used() {
        Set<String> used = new TreeSet<>();
        for (int i = 1; i < tags.length; i++) {
            if (tags[i] == FIELD || tags[i] == METHOD || tags[i] == INTERFACE_METHOD) {
                int named = seconds[i];
                used.add(texts[firsts[firsts[i]]] + "." + texts[firsts[named]] + texts[seconds[named]]);
            }
        }
        return used;
    }
}
