import java.io.DataInputStream;
import java.io.IOException;
import java.io.InputStream;
import java.lang.reflect.Constructor;
import java.lang.reflect.Field;
import java.lang.reflect.Method;
import java.lang.reflect.Modifier;
import java.util.Arrays;
import java.util.List;
import java.util.Set;
import java.util.TreeSet;

/** What of LANGUAGE.md can be read from the compiled class: the face, the library that is used, static state. */
public final class LanguageTest {
    private static final List<String> FACE = List.of("set(int,int)int", "good(int)int", "swap(int,int)int", "close(int)int",
        "pick(int)int", "night()int", "of(int,int)int", "ofSlot(int,int)int", "steps(int,int)int", "basket(int,int,int)int",
        "often(int)int", "count(int)int", "meanSpeed()long", "walk(int)int", "stop(int,int)int", "shortest(int)int",
        "bestSwap(int)int", "ifSwapped(int,int)int", "badly()int", "put(long)int", "wipe()int", "fault()int", "carryOut()int",
        "undo()int", "save(int)int", "restore(int)int");
    private static final List<String> CONSTANTS = List.of("NO_SUCH=-1", "BAD_VALUE=-2", "BAD_TEXT=-3", "TOO_MANY=-4",
        "NOT_POSSIBLE=-5", "NONE=-6", "MOVES=0", "FORGET=1", "CROSS=2");
    // Nothing else of the library is needed; what is added here has to stand in rule 4 of LANGUAGE.md.
    private static final Set<String> LIBRARY = Set.of("java/lang/Object.<init>", "java/lang/System.arraycopy",
        "java/lang/Integer.bitCount", "java/lang/Math.min", "java/lang/Math.max");

    private static int wrong = 0;

    private static void check(boolean holds, String what) {
        if (!holds) {
            wrong++;
            System.out.println("not so: " + what);
        }
    }

    public static void main(String[] args) throws IOException, IllegalAccessException {
        checkFace();
        checkConstants();
        Class<?>[] inside = ShelfSlots.class.getDeclaredClasses();
        check(inside.length <= 11, "at most twelve classes");
        checkClass(ShelfSlots.class);
        for (Class<?> one : inside) {
            int bits = one.getModifiers();
            check(Modifier.isStatic(bits) && !Modifier.isPublic(bits) && !Modifier.isProtected(bits), one + " is static and not public");
            checkClass(one);
        }
        System.out.println(wrong == 0 ? "the class keeps to the language" : wrong + " rules are broken");
        if (wrong != 0) {
            System.exit(1);
        }
    }

    private static void checkFace() {
        check(Modifier.isFinal(ShelfSlots.class.getModifiers()) && Modifier.isPublic(ShelfSlots.class.getModifiers()), "public and final");
        Constructor<?>[] made = ShelfSlots.class.getDeclaredConstructors();
        check(made.length == 1 && Modifier.isPublic(made[0].getModifiers()) && made[0].getParameterCount() == 0, "one constructor");
        Set<String> names = new TreeSet<>();
        Set<String> open = new TreeSet<>();
        for (Method method : ShelfSlots.class.getDeclaredMethods()) {
            if (!Modifier.isPrivate(method.getModifiers())) {
                String types = Arrays.toString(method.getParameterTypes()).replaceAll("[\\[\\] ]", "");
                open.add(method.getName() + "(" + types + ")" + method.getReturnType());
                names.add(method.getName());
                check(Modifier.isPublic(method.getModifiers()) && !Modifier.isStatic(method.getModifiers()), method + " is of the face");
            }
        }
        check(open.equals(new TreeSet<>(FACE)), "the methods are those of the document: " + open);
        for (Method method : ShelfSlots.class.getDeclaredMethods()) {
            check(!Modifier.isPrivate(method.getModifiers()) || !names.contains(method.getName()), method + " bears the name of a public one");
        }
    }

    private static void checkConstants() throws IllegalAccessException {
        Set<String> open = new TreeSet<>();
        for (Field field : ShelfSlots.class.getDeclaredFields()) {
            int bits = field.getModifiers();
            if (!Modifier.isPrivate(bits)) {
                check(Modifier.isPublic(bits) && Modifier.isStatic(bits) && Modifier.isFinal(bits), field + " is a constant");
                open.add(field.getName() + "=" + field.get(null));
            }
        }
        check(open.equals(new TreeSet<>(CONSTANTS)), "the constants are those of the document: " + open);
    }

    private static void checkClass(Class<?> one) throws IOException {
        int fields = 0;
        for (Field field : one.getDeclaredFields()) {
            boolean isStatic = Modifier.isStatic(field.getModifiers());
            check(!isStatic || Modifier.isFinal(field.getModifiers()) && field.getType().isPrimitive(), field + " is no state");
            fields += isStatic ? 0 : 1;
        }
        check(fields <= 20, one + " has " + fields + " fields");
        for (Method method : one.getDeclaredMethods()) {
            check(method.getParameterCount() <= 7, method + " takes at most seven parameters");
            check(!Modifier.isSynchronized(method.getModifiers()), method + " is not synchronized");
        }
        String file = one.getName() + ".class";
        try (InputStream in = one.getResourceAsStream(file)) {
            checkPool(new DataInputStream(in), one.getName());
        }
    }

    /** Reads the constant pool: each method of another class that is called stands in it. */
    private static void checkPool(DataInputStream in, String name) throws IOException {
        in.skipBytes(8);
        int size = in.readUnsignedShort();
        String[] texts = new String[size];
        int[][] pairs = new int[size][];
        for (int index = 1; index < size; index++) {
            int tag = in.readUnsignedByte();
            switch (tag) {
                case 1: texts[index] = in.readUTF(); break;
                case 3: case 4: in.readInt(); break;
                case 5: case 6: in.readLong(); index++; break;
                case 7: case 8: case 16: pairs[index] = new int[] {tag, in.readUnsignedShort(), 0}; break;
                case 9: case 10: case 11: case 12: pairs[index] = new int[] {tag, in.readUnsignedShort(), in.readUnsignedShort()}; break;
                default: throw new IOException("a lambda, or joined texts, in " + name);
            }
        }
        for (int[] pair : pairs) {
            if (pair != null && (pair[0] == 9 || pair[0] == 10 || pair[0] == 11)) {
                String owner = texts[pairs[pair[1]][1]];
                String member = owner + "." + texts[pairs[pair[2]][1]];
                check(owner.startsWith("ShelfSlots") || owner.startsWith("[") || LIBRARY.contains(member), name + " uses " + member);
            }
        }
    }
}
