import java.util.ArrayDeque;
import java.util.ArrayList;
import java.util.Comparator;
import java.util.Deque;
import java.util.HashMap;
import java.util.List;
import java.util.Map;
import java.util.TreeSet;
import java.util.regex.Pattern;

/** The document once more, written as plainly as can be and with no eye on speed: ModelTest compares the class with it. */
final class Model {
    static final int NO_SUCH = -1, BAD_VALUE = -2, BAD_TEXT = -3, TOO_MANY = -4, NOT_POSSIBLE = -5, NONE = -6;
    private static final String NUMBER = "(0|[1-9][0-9]?)";
    private static final String ORDER =
        "(g" + NUMBER + "|b" + NUMBER + "(," + NUMBER + ")*|m" + NUMBER + "-" + NUMBER + "|x" + NUMBER + "|n)";
    private static final Pattern TEXT = Pattern.compile(ORDER + "(;" + ORDER + ")*");
    private static final String[] ENDINGS = {"", "0", "-0", "0-0", "n"};

    private record Basket(int set, int length) { }

    private static final class State {
        int[] settings = {2, 75, 3};
        List<Integer> where = new ArrayList<>();
        List<Float> speed = new ArrayList<>();
        List<Integer> today = new ArrayList<>();
        List<Integer> soFar = new ArrayList<>();
        List<Integer> swaps = new ArrayList<>();
        TreeSet<Integer> closed = new TreeSet<>();
        List<Basket> baskets = new ArrayList<>();
        List<Basket> yesterday = new ArrayList<>();
        Map<Integer, Integer> often = new HashMap<>();
        int nights;
        int walks;
        int nightSwaps;

        State copy() {
            State c = new State();
            c.settings = settings.clone();
            c.where.addAll(where);
            c.speed.addAll(speed);
            c.today.addAll(today);
            c.soFar.addAll(soFar);
            c.swaps.addAll(swaps);
            c.closed.addAll(closed);
            c.baskets.addAll(baskets);
            c.yesterday.addAll(yesterday);
            c.often.putAll(often);
            c.nights = nights;
            c.walks = walks;
            c.nightSwaps = nightSwaps;
            return c;
        }
    }

    private State s = new State();
    private final Deque<State> history = new ArrayDeque<>();
    private final State[] saves = new State[2];
    private String pad = "";

    private void record() {
        history.addLast(s.copy());
        if (history.size() > 6) {
            history.removeFirst();
        }
    }

    private static boolean noSlot(int slot) {
        return slot < 0 || slot > 29;
    }

    private int dist(int a, int b) {
        int aisles = Math.abs(a / 6 - b / 6);
        return aisles == 0 ? Math.abs(a - b) : a % 6 + b % 6 + aisles * s.settings[2];
    }

    private int desk(int slot) {
        return slot == 0 ? 1 : dist(slot, 0) + 1;
    }

    private static List<Integer> members(int basket) {
        List<Integer> list = new ArrayList<>();
        for (int g = 0; g < 31; g++) {
            if ((basket & 1 << g) != 0) {
                list.add(g);
            }
        }
        return list;
    }

    /** The goods in the order of the walk; the last element is the length. */
    private List<Integer> walked(int basket, List<Integer> where) {
        List<Integer> left = members(basket);
        List<Integer> out = new ArrayList<>();
        int length = 0;
        Integer at = null;
        while (!left.isEmpty()) {
            final Integer from = at;
            Comparator<Integer> order = Comparator.comparingInt(g -> from == null ? desk(where.get(g)) : dist(from, where.get(g)));
            Integer next = left.stream().min(order.thenComparing(Comparator.naturalOrder())).get();
            length += from == null ? desk(where.get(next)) : dist(from, where.get(next));
            at = where.get(next);
            out.add(next);
            left.remove(next);
        }
        out.add(length + desk(at));
        return out;
    }

    private int length(int basket, List<Integer> where) {
        List<Integer> w = walked(basket, where);
        return w.get(w.size() - 1);
    }

    private int together(List<Integer> where) {
        return s.baskets.stream().mapToInt(b -> length(b.set, where)).sum();
    }

    private float weight(List<Integer> where, List<Float> speed) {
        float sum = 0.0f;
        for (int g = 0; g < where.size(); g++) {
            sum += speed.get(g) * (float) desk(where.get(g));
        }
        return sum;
    }

    private static List<Integer> exchanged(List<Integer> where, int a, int b) {
        List<Integer> out = new ArrayList<>();
        for (int slot : where) {
            out.add(slot == a ? b : slot == b ? a : slot);
        }
        return out;
    }

    private List<Float> aged() {
        List<Float> out = new ArrayList<>();
        int forget = s.settings[1];
        for (int g = 0; g < s.where.size(); g++) {
            out.add(s.speed.get(g) * (float) forget / 100.0f + (float) s.today.get(g) * (float) (100 - forget) / 100.0f);
        }
        return out;
    }

    private int[] best(List<Float> speed) {
        int[] found = null;
        float least = 0.0f;
        for (int a = 0; a < 30; a++) {
            for (int b = a + 1; b < 30; b++) {
                boolean open = !s.closed.contains(a) && !s.closed.contains(b);
                List<Integer> moved = exchanged(s.where, a, b);
                if (!open || !(s.where.contains(a) || s.where.contains(b)) || together(moved) > together(s.where)) {
                    continue;
                }
                float w = weight(moved, speed);
                if (found == null || w < least) {
                    found = new int[] {a, b};
                    least = w;
                }
            }
        }
        return found != null && least < weight(s.where, speed) ? found : null;
    }

    private int countSwaps(int a, int b) {
        int many = 0;
        for (int g = 0; g < s.where.size(); g++) {
            if (s.where.get(g) == a || s.where.get(g) == b) {
                s.swaps.set(g, s.swaps.get(g) + 1);
                many++;
            }
        }
        s.where = exchanged(s.where, a, b);
        return many;
    }

    private int bad(int basket) {
        for (int g = 0; g < 32; g++) {
            if ((basket & 1 << g) != 0 && g >= s.where.size()) {
                return NO_SUCH;
            }
        }
        int n = members(basket).size();
        return n == 0 || n > 6 ? BAD_VALUE : 0;
    }

    // The orders without what is recorded.

    private int goodNow(int slot) {
        if (noSlot(slot)) return NO_SUCH;
        if (s.where.contains(slot)) return NOT_POSSIBLE;
        if (s.where.size() == 16) return TOO_MANY;
        s.where.add(slot);
        s.speed.add(0.0f);
        s.today.add(0);
        s.soFar.add(0);
        s.swaps.add(0);
        return s.where.size() - 1;
    }

    private int swapNow(int slot, int other) {
        if (noSlot(slot) || noSlot(other)) return NO_SUCH;
        return slot == other ? BAD_VALUE : countSwaps(slot, other);
    }

    private int closeNow(int slot) {
        if (noSlot(slot)) return NO_SUCH;
        if (s.closed.remove(slot)) return 0;
        s.closed.add(slot);
        return 1;
    }

    private int pickNow(int basket) {
        int error = bad(basket);
        if (error != 0) return error;
        if (s.baskets.size() == 12) return TOO_MANY;
        int length = length(basket, s.where);
        s.baskets.add(new Basket(basket, length));
        s.walks += length;
        s.often.merge(basket, 1, Integer::sum);
        for (int g : members(basket)) {
            s.today.set(g, s.today.get(g) + 1);
            s.soFar.set(g, s.soFar.get(g) + 1);
        }
        return length;
    }

    private int nightNow() {
        if (s.nights == 9999) return NOT_POSSIBLE;
        s.speed = aged();
        int done = 0;
        while (done < s.settings[0]) {
            int[] found = best(s.speed);
            if (found == null) break;
            countSwaps(found[0], found[1]);
            done++;
        }
        s.nightSwaps += done;
        s.yesterday = s.baskets;
        s.baskets = new ArrayList<>();
        s.today.replaceAll(old -> 0);
        s.nights++;
        return done;
    }

    private interface Change {
        int run();
    }

    private int change(Change c) {
        State before = s.copy();
        int answer = c.run();
        if (answer >= 0) {
            State after = s;
            s = before;
            record();
            s = after;
        }
        return answer;
    }

    // The face.

    int set(int setting, int value) {
        int[] low = {0, 0, 1};
        int[] high = {9, 100, 9};
        return change(() -> {
            if (setting < 0 || setting > 2 || value < low[setting] || value > high[setting]) return BAD_VALUE;
            int old = s.settings[setting];
            s.settings[setting] = value;
            return old;
        });
    }

    int good(int slot) { return change(() -> goodNow(slot)); }

    int swap(int slot, int other) { return change(() -> swapNow(slot, other)); }

    int close(int slot) { return change(() -> closeNow(slot)); }

    int pick(int basket) { return change(() -> pickNow(basket)); }

    int night() { return change(this::nightNow); }

    int of(int good, int what) {
        if (good < 0 || good >= s.where.size()) return NO_SUCH;
        if (what < 0 || what > 5) return BAD_VALUE;
        int[] all = {s.where.get(good), Float.floatToIntBits(s.speed.get(good)), s.today.get(good), s.soFar.get(good),
            desk(s.where.get(good)), s.swaps.get(good)};
        return all[what];
    }

    int ofSlot(int slot, int what) {
        if (noSlot(slot)) return NO_SUCH;
        if (what < 0 || what > 2) return BAD_VALUE;
        int good = s.where.indexOf(slot);
        return what == 0 ? (good < 0 ? NONE : good) : what == 1 ? desk(slot) : s.closed.contains(slot) ? 1 : 0;
    }

    int steps(int slot, int other) {
        return noSlot(slot) || noSlot(other) ? NO_SUCH : dist(slot, other);
    }

    int basket(int day, int rank, int what) {
        if (day < 0 || day > 1) return NO_SUCH;
        List<Basket> list = day == 0 ? s.baskets : s.yesterday;
        if (rank < 0 || rank >= list.size()) return NO_SUCH;
        if (what < 0 || what > 2) return BAD_VALUE;
        Basket b = list.get(rank);
        return what == 0 ? b.set : what == 1 ? b.length : length(b.set, s.where);
    }

    int often(int basket) {
        return bad(basket) != 0 ? bad(basket) : s.often.getOrDefault(basket, 0);
    }

    int count(int what) {
        if (what < 0 || what > 15) return BAD_VALUE;
        int set = 0;
        for (int slot : s.closed) set |= 1 << slot;
        int fastest = NONE;
        for (int g = s.where.size() - 1; g >= 0; g--) {
            if (fastest == NONE || s.speed.get(g) >= s.speed.get(fastest)) fastest = g;
        }
        int[] all = {s.nights, s.where.size(), s.baskets.size(), s.baskets.stream().mapToInt(Basket::length).sum(),
            s.yesterday.stream().mapToInt(Basket::length).sum(), s.walks, s.nightSwaps,
            Float.floatToIntBits(weight(s.where, s.speed)), set, fastest, s.often.size(),
            s.settings[0], s.settings[1], s.settings[2], pad.length(), history.size()};
        return all[what];
    }

    long meanSpeed() {
        if (s.where.isEmpty()) return Double.doubleToLongBits(0.0);
        double sum = 0.0;
        for (float f : s.speed) sum += (double) f;
        return Double.doubleToLongBits(sum / (double) s.where.size());
    }

    int walk(int basket) {
        return bad(basket) != 0 ? bad(basket) : length(basket, s.where);
    }

    int stop(int basket, int rank) {
        if (bad(basket) != 0) return bad(basket);
        List<Integer> stops = walked(basket, s.where);
        return rank < 0 || rank >= stops.size() - 1 ? NONE : stops.get(rank);
    }

    int shortest(int basket) {
        return bad(basket) != 0 ? bad(basket) : shortestFrom(-1, members(basket));
    }

    private int shortestFrom(int at, List<Integer> left) {
        if (left.isEmpty()) return desk(at);
        int best = Integer.MAX_VALUE;
        for (Integer g : left) {
            List<Integer> rest = new ArrayList<>(left);
            rest.remove(g);
            int slot = s.where.get(g);
            best = Math.min(best, (at < 0 ? desk(slot) : dist(at, slot)) + shortestFrom(slot, rest));
        }
        return best;
    }

    int bestSwap(int what) {
        if (what < 0 || what > 1) return BAD_VALUE;
        int[] found = best(aged());
        return found == null ? NONE : found[what];
    }

    int ifSwapped(int slot, int other) {
        return noSlot(slot) || noSlot(other) ? NO_SUCH : together(exchanged(s.where, slot, other));
    }

    int badly() {
        int set = 0;
        for (int g = 0; g < s.where.size(); g++) {
            for (int h = 0; h < s.where.size(); h++) {
                if (s.speed.get(g) > s.speed.get(h) && desk(s.where.get(h)) < desk(s.where.get(g))) set |= 1 << g;
            }
        }
        return set;
    }

    int put(long characters) {
        StringBuilder told = new StringBuilder();
        boolean ended = false;
        for (int i = 0; i < 8; i++) {
            int code = (int) (characters >> 8 * i) & 255;
            if (code == 0) {
                ended = true;
            } else if (ended || code < 33 || code > 126) {
                return BAD_VALUE;
            } else {
                told.insert(0, (char) code);
            }
        }
        if (told.length() == 0) return BAD_VALUE;
        if (pad.length() + told.length() > 80) return TOO_MANY;
        pad += told;
        return pad.length();
    }

    int wipe() {
        int length = pad.length();
        pad = "";
        return length;
    }

    private static boolean canStand(String start) {
        for (String ending : ENDINGS) {
            if (TEXT.matcher(start + ending).matches()) return true;
        }
        return false;
    }

    int fault() {
        if (TEXT.matcher(pad).matches()) return NONE;
        for (int i = 1; i <= pad.length(); i++) {
            if (!canStand(pad.substring(0, i))) return i - 1;
        }
        return pad.length();
    }

    int carryOut() {
        if (fault() != NONE) return BAD_TEXT;
        record();
        int done = 0;
        for (String order : pad.split(";")) {
            if (orderNow(order) < 0) break;
            done++;
        }
        pad = "";
        return done;
    }

    private int orderNow(String order) {
        String[] numbers = order.substring(1).split("[,-]");
        switch (order.charAt(0)) {
            case 'g': return goodNow(Integer.parseInt(numbers[0]));
            case 'x': return closeNow(Integer.parseInt(numbers[0]));
            case 'm': return swapNow(Integer.parseInt(numbers[0]), Integer.parseInt(numbers[1]));
            case 'n': return nightNow();
            default:
                TreeSet<Integer> set = new TreeSet<>();
                for (String number : numbers) set.add(Integer.parseInt(number));
                if (set.last() >= s.where.size()) return NO_SUCH;
                return pickNow(set.stream().mapToInt(g -> 1 << g).sum());
        }
    }

    int undo() {
        if (history.isEmpty()) return NOT_POSSIBLE;
        s = history.removeLast();
        return history.size();
    }

    int save(int slot) {
        if (slot < 0 || slot > 1) return BAD_VALUE;
        saves[slot] = s.copy();
        return s.where.size();
    }

    int restore(int slot) {
        if (slot < 0 || slot > 1) return BAD_VALUE;
        if (saves[slot] == null) return NOT_POSSIBLE;
        record();
        s = saves[slot].copy();
        return s.where.size();
    }
}
