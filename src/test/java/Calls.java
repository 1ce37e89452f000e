import java.lang.reflect.InvocationTargetException;
import java.lang.reflect.Method;
import java.util.ArrayList;
import java.util.Arrays;
import java.util.HashMap;
import java.util.List;
import java.util.Map;

/**
 * Calls of one object, told as texts: "pick 3" answers what pick(3) answers, "12 times pick 1" the last of its answers.
 * Rows with a due answer are told as "pick 3 = 36"; "goods 29 0", "shut but 5 28" and "write g1;n" stand for several calls.
 */
final class Calls {
    // Later answers of an object are free, so no test may make more calls than these.
    static final int MOST = 512;
    private static final Map<String, Long> NAMES = Map.of("NO_SUCH", -1L, "BAD_VALUE", -2L, "BAD_TEXT", -3L, "TOO_MANY", -4L,
        "NOT_POSSIBLE", -5L, "NONE", -6L, "LOW", (long) Integer.MIN_VALUE, "HIGH", (long) Integer.MAX_VALUE,
        "LOWEST", Long.MIN_VALUE, "HIGHEST", Long.MAX_VALUE);

    private final Object shed;
    private final Map<String, Method> face = new HashMap<>();
    private int made;

    /** The shed is a ShelfSlots, or a Model of one. */
    Calls(Object shed) {
        this.shed = shed;
        for (Method method : shed.getClass().getDeclaredMethods()) {
            method.setAccessible(true);
            face.put(method.getName() + "/" + method.getParameterCount(), method);
        }
    }

    /** The same rows on a new ShelfSlots and on the plain model, so that no row is due by a slip. */
    static List<String> wrongOfBoth(String... rows) {
        List<String> out = new ArrayList<>(new Calls(new ShelfSlots()).wrong(rows));
        for (String one : new Calls(new Model()).wrong(rows)) {
            out.add("the model's " + one);
        }
        return out;
    }

    /** Makes the calls of the rows, and tells each one whose answer is not due. */
    List<String> wrong(String... rows) {
        List<String> out = new ArrayList<>();
        for (String row : rows) {
            int mark = row.lastIndexOf(" = ");
            String call = mark < 0 ? row : row.substring(0, mark);
            long due = mark < 0 ? 0 : number(row.substring(mark + 3));
            List<Long> answers = answers(call);
            for (int time = 0; mark >= 0 && time < answers.size(); time++) {
                if (answers.get(time) != due) {
                    out.add(call + " answered " + answers.get(time) + " the time " + time + ", due is " + due);
                    break;
                }
            }
        }
        return out;
    }

    /** One answer for each time that the call is made. */
    List<Long> answers(String call) {
        String[] words = call.split(" ");
        boolean isRepeated = words.length > 2 && words[1].equals("times");
        int times = isRepeated ? Integer.parseInt(words[0]) : 1;
        String[] once = isRepeated ? Arrays.copyOfRange(words, 2, words.length) : words;
        List<Long> out = new ArrayList<>();
        for (int time = 0; time < times; time++) {
            out.add(answer(once));
        }
        return out;
    }

    private long answer(String[] words) {
        switch (words[0]) {
            case "goods":
                return each("good", slots(words, 1));
            case "shut":
                return each("close", allBut(slots(words, 2)));
            case "write":
                return write(words.length > 1 ? words[1] : "");
            default:
                long[] numbers = new long[words.length - 1];
                for (int index = 0; index < numbers.length; index++) {
                    numbers[index] = number(words[index + 1]);
                }
                return call(words[0], numbers);
        }
    }

    private static List<Integer> slots(String[] words, int from) {
        List<Integer> out = new ArrayList<>();
        for (int index = from; index < words.length; index++) {
            out.add(Integer.parseInt(words[index]));
        }
        return out;
    }

    private static List<Integer> allBut(List<Integer> open) {
        List<Integer> out = new ArrayList<>();
        for (int slot = 0; slot < 30; slot++) {
            out.add(slot);
        }
        out.removeAll(open);
        return out;
    }

    private long each(String name, List<Integer> slots) {
        long answer = 0;
        for (int slot : slots) {
            answer = call(name, slot);
        }
        return answer;
    }

    private long write(String text) {
        long answer = 0;
        for (int from = 0; from < text.length(); from += 8) {
            answer = call("put", packed(text.substring(from, Math.min(from + 8, text.length()))));
        }
        return answer;
    }

    static long packed(String text) {
        long out = 0;
        for (char sign : text.toCharArray()) {
            out = out << 8 | sign;
        }
        return out;
    }

    /** A name, a number with or without 0x, 2^n, f and a speed for the bits of a float, d for those of a double. */
    static long number(String word) {
        if (NAMES.containsKey(word)) {
            return NAMES.get(word);
        }
        if (word.startsWith("0x")) {
            return Long.parseUnsignedLong(word.substring(2), 16);
        }
        if (word.startsWith("2^")) {
            return 1 << Integer.parseInt(word.substring(2));
        }
        if (word.startsWith("f")) {
            return Float.floatToIntBits(Float.parseFloat(word.substring(1)));
        }
        return word.startsWith("d") ? Double.doubleToLongBits(Double.parseDouble(word.substring(1))) : Long.parseLong(word);
    }

    long call(String name, long... numbers) {
        Method method = face.get(name + "/" + numbers.length);
        made++;
        if (method == null || made > MOST) {
            throw new IllegalStateException(method == null ? "no method " + name : "more than " + MOST + " calls of one object");
        }
        Object[] told = new Object[numbers.length];
        for (int index = 0; index < told.length; index++) {
            boolean isLong = method.getParameterTypes()[index] == long.class;
            told[index] = isLong ? (Object) numbers[index] : (Object) (int) numbers[index];
        }
        try {
            return ((Number) method.invoke(shed, told)).longValue();
        } catch (IllegalAccessException | InvocationTargetException thrown) {
            throw new IllegalStateException(name + Arrays.toString(numbers) + " threw", thrown);
        }
    }
}
