import java.io.DataInputStream;
import java.io.IOException;
import java.io.InputStream;
import java.util.ArrayList;
import java.util.List;
import java.util.Set;

/** LANGUAGE.md 4 and 10, seen from what the compiled classes refer to: only what stands there of the library. */
public final class LibraryTest {
    private static final Set<String> ALLOWED = Set.of(
        "java/lang/Object.<init>", "java/lang/System.arraycopy", "java/util/Arrays.fill", "java/util/Arrays.copyOf",
        "java/util/Arrays.copyOfRange", "java/lang/String.length", "java/lang/String.charAt", "java/lang/String.isEmpty",
        "java/lang/String.equals", "java/lang/String.indexOf", "java/lang/String.substring", "java/lang/String.toCharArray",
        "java/lang/Integer.bitCount", "java/lang/Integer.compare", "java/lang/Long.compare", "java/lang/Long.bitCount",
        "java/lang/Math.max", "java/lang/Math.min", "java/lang/Math.abs", "java/lang/Math.floorDiv", "java/lang/Math.floorMod");
    private static final int TEXT = 1, CLASS = 7, FIELD = 9, METHOD = 10, OF_INTERFACE = 11, NAME_AND_TYPE = 12;

    public static void main(String[] args) throws IOException {
        List<Class<?>> all = new ArrayList<>(List.of(HandRelay.class.getDeclaredClasses()));
        all.add(HandRelay.class);
        for (Class<?> c : all) {
            try (InputStream file = c.getResourceAsStream("/" + c.getName() + ".class")) {
                look(c.getName(), new DataInputStream(file));
            }
        }
        Check.end();
    }

    private static void look(String name, DataInputStream in) throws IOException {
        Check.due(name + " is a class", in.readInt(), 0xcafebabe);
        in.readInt();
        int size = in.readUnsignedShort();
        int[] tag = new int[size];
        int[] one = new int[size];
        int[] two = new int[size];
        String[] text = new String[size];
        for (int k = 1; k < size; k++) {
            tag[k] = in.readUnsignedByte();
            switch (tag[k]) {
                case TEXT -> text[k] = in.readUTF();
                case 3, 4 -> in.readInt();
                case 5, 6 -> {
                    in.readLong();
                    // A long takes two places.
                    k++;
                }
                case CLASS, 8, 16, 19, 20 -> one[k] = in.readUnsignedShort();
                case FIELD, METHOD, OF_INTERFACE, NAME_AND_TYPE -> {
                    one[k] = in.readUnsignedShort();
                    two[k] = in.readUnsignedShort();
                }
                default -> {
                    Check.due(name + " has no lambda, and joins no texts by +: tag " + tag[k], false);
                    return;
                }
            }
        }
        for (int k = 1; k < size; k++) {
            if (tag[k] == FIELD || tag[k] == METHOD || tag[k] == OF_INTERFACE) {
                String owner = text[one[one[k]]];
                String member = owner + "." + text[one[two[k]]];
                boolean isOwn = owner.equals("HandRelay") || owner.startsWith("HandRelay$") || owner.startsWith("[");
                Check.due(name + " refers to " + member, isOwn || ALLOWED.contains(member));
            }
        }
    }
}
