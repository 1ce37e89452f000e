import java.io.IOException;
import java.lang.reflect.Constructor;
import java.lang.reflect.Field;
import java.lang.reflect.Method;
import java.lang.reflect.Modifier;
import java.nio.file.Files;
import java.nio.file.Path;
import java.util.ArrayDeque;
import java.util.Arrays;
import java.util.Deque;
import java.util.HashMap;
import java.util.List;
import java.util.Map;
import java.util.Set;
import java.util.TreeSet;

/** What of LANGUAGE.md can be read from the compiled class: the face, the library that is used, static state. */
public final class LanguageTest {
    private static final List<String> FACE = List.of("set(int,int)int", "good(int)int", "swap(int,int)int", "close(int)int",
        "pick(int)int", "night()int", "of(int,int)int", "ofSlot(int,int)int", "steps(int,int)int", "basket(int,int,int)int",
        "often(int)int", "count(int)int", "meanSpeed()long", "walk(int)int", "stop(int,int)int", "shortest(int)int",
        "bestSwap(int)int", "ifSwapped(int,int)int", "badly()int", "put(long)int", "wipe()int", "fault()int", "carryOut()int",
        "undo()int", "save(int)int", "restore(int)int");
    private static final List<String> CONSTANTS = List.of("NO_SUCH=-1", "BAD_VALUE=-2", "BAD_TEXT=-3", "TOO_MANY=-4",
        "NOT_POSSIBLE=-5", "NONE=-6", "MOVES=0", "FORGET=1", "CROSS=2");
    // Nothing else of the library is needed; what is added here has to stand in rule 4 of LANGUAGE.md.
    private static final Set<String> LIBRARY = Set.of("java/lang/Object.<init>", "java/lang/System.arraycopy",
        "java/lang/Integer.bitCount", "java/lang/Math.min", "java/lang/Math.max");

    // Remainders and signs of floats, exceptions, casts, locks, rows of rows: none of them is needed.
    private static final int[] FORBIDDEN = {114, 115, 118, 119, ClassCode.THROW, ClassCode.CAST, ClassCode.LOCK,
        ClassCode.ROWS_OF_ROWS};
    private static final int MOST_LINES = 60;
    private static final int MOST_DEPTH = 8;

    private static final Map<String, List<String>> calls = new HashMap<>();
    private static int wrong = 0;

    private static void check(boolean holds, String what) {
        if (!holds) {
            wrong++;
            System.out.println("not so: " + what);
        }
    }

    public static void main(String[] args) throws IOException, IllegalAccessException {
        checkFace();
        checkConstants();
        Class<?>[] inside = ShelfSlots.class.getDeclaredClasses();
        check(inside.length <= 11, "at most twelve classes");
        checkClass(ShelfSlots.class);
        for (Class<?> one : inside) {
            int bits = one.getModifiers();
            check(Modifier.isStatic(bits) && !Modifier.isPublic(bits) && !Modifier.isProtected(bits), one + " is static and not public");
            checkClass(one);
        }
        checkDepth();
        checkSigns();
        System.out.println(wrong == 0 ? "the class keeps to the language" : wrong + " rules are broken");
        if (wrong != 0) {
            System.exit(1);
        }
    }

    private static void checkFace() {
        check(Modifier.isFinal(ShelfSlots.class.getModifiers()) && Modifier.isPublic(ShelfSlots.class.getModifiers()), "public and final");
        Constructor<?>[] made = ShelfSlots.class.getDeclaredConstructors();
        check(made.length == 1 && Modifier.isPublic(made[0].getModifiers()) && made[0].getParameterCount() == 0, "one constructor");
        Set<String> names = new TreeSet<>();
        Set<String> open = new TreeSet<>();
        for (Method method : ShelfSlots.class.getDeclaredMethods()) {
            if (!Modifier.isPrivate(method.getModifiers())) {
                String types = Arrays.toString(method.getParameterTypes()).replaceAll("[\\[\\] ]", "");
                open.add(method.getName() + "(" + types + ")" + method.getReturnType());
                names.add(method.getName());
                check(Modifier.isPublic(method.getModifiers()) && !Modifier.isStatic(method.getModifiers()), method + " is of the face");
            }
        }
        check(open.equals(new TreeSet<>(FACE)), "the methods are those of the document: " + open);
        for (Method method : ShelfSlots.class.getDeclaredMethods()) {
            check(!Modifier.isPrivate(method.getModifiers()) || !names.contains(method.getName()), method + " bears the name of a public one");
        }
    }

    private static void checkConstants() throws IllegalAccessException {
        Set<String> open = new TreeSet<>();
        for (Field field : ShelfSlots.class.getDeclaredFields()) {
            int bits = field.getModifiers();
            if (!Modifier.isPrivate(bits)) {
                check(Modifier.isPublic(bits) && Modifier.isStatic(bits) && Modifier.isFinal(bits), field + " is a constant");
                open.add(field.getName() + "=" + field.get(null));
            }
        }
        check(open.equals(new TreeSet<>(CONSTANTS)), "the constants are those of the document: " + open);
    }

    private static void checkClass(Class<?> one) throws IOException {
        int fields = 0;
        for (Field field : one.getDeclaredFields()) {
            boolean isStatic = Modifier.isStatic(field.getModifiers());
            check(!isStatic || Modifier.isFinal(field.getModifiers()) && field.getType().isPrimitive(), field + " is no state");
            fields += isStatic ? 0 : 1;
        }
        check(fields <= 20, one + " has " + fields + " fields");
        for (Method method : one.getDeclaredMethods()) {
            check(method.getParameterCount() <= 7, method + " takes at most seven parameters");
            check(!Modifier.isSynchronized(method.getModifiers()), method + " is not synchronized");
        }
        ClassCode code = new ClassCode(one);
        for (String member : code.used) {
            boolean isOwn = member.startsWith("ShelfSlots") || member.startsWith("[");
            check(isOwn || LIBRARY.contains(member), one + " uses " + member);
        }
        for (ClassCode.Body body : code.bodies) {
            checkBody(body);
            calls.put(body.name, body.calls);
        }
    }

    private static void checkBody(ClassCode.Body body) {
        check(body.lines <= MOST_LINES, body.name + " has " + body.lines + " lines");
        check(body.catches == 0, body.name + " catches something");
        for (int instruction : FORBIDDEN) {
            check(!body.instructions.contains(instruction), body.name + " holds the instruction " + instruction);
        }
        boolean isConstructor = body.name.contains(".<init> ");
        boolean mayMake = isConstructor || body.name.startsWith("ShelfSlots$Shed.notePicked ");
        check(mayMake || !body.instructions.contains(ClassCode.NEW), body.name + " makes an object");
        boolean makesRow = body.instructions.contains(ClassCode.NEW_ROW) || body.instructions.contains(ClassCode.NEW_OBJECTS);
        check(isConstructor || !makesRow, body.name + " makes a row");
    }

    /** Calls that are no recursion go at most eight deep; there is no recursion here. */
    private static void checkDepth() {
        int deepest = 0;
        for (String method : calls.keySet()) {
            deepest = Math.max(deepest, depth(method, new ArrayDeque<>()));
        }
        check(deepest <= MOST_DEPTH, "calls go " + deepest + " deep");
    }

    private static int depth(String method, Deque<String> open) {
        if (!calls.containsKey(method)) {
            return 0;
        }
        if (open.contains(method)) {
            check(false, method + " calls itself");
            return 0;
        }
        open.push(method);
        int below = 0;
        for (String called : calls.get(method)) {
            below = Math.max(below, depth(called, open));
        }
        open.pop();
        return below + 1;
    }

    private static void checkSigns() throws IOException {
        for (byte sign : Files.readAllBytes(Path.of("src/main/java/ShelfSlots.java"))) {
            check(sign > 0, "the file holds a sign above 127");
        }
    }
}
