/** Each promise of the document, with answers worked out by hand. */
public final class PromisesTest {
    private static final int NO_SUCH = -1, BAD_VALUE = -2, BAD_TEXT = -3, TOO_MANY = -4, NOT_POSSIBLE = -5, NONE = -6;
    private static final int LOW = Integer.MIN_VALUE, HIGH = Integer.MAX_VALUE;
    private static int wrong = 0;
    private static int promise = 0;

    public static void main(String[] args) {
        newObject();
        set();
        good();
        swap();
        close();
        pick();
        nightSpeeds();
        nightMoves();
        nightTies();
        nightEnds();
        mostNights();
        of();
        ofSlot();
        steps();
        basket();
        often();
        count();
        meanSpeed();
        smallSpeeds();
        walk();
        stop();
        shortest();
        bestSwap();
        ifSwapped();
        badly();
        put();
        wipe();
        fault();
        carryOut();
        undo();
        undoLimit();
        saveAndRestore();
        System.out.println(wrong == 0 ? "all promises hold" : wrong + " answers are not as due");
        if (wrong != 0) {
            System.exit(1);
        }
    }

    private static void due(String call, long got, long want) {
        if (got != want) {
            wrong++;
            System.out.println("promise " + promise + ": " + call + " answered " + got + ", due is " + want);
        }
    }

    private static void dueSpeed(ShelfSlots x, int good, float want) {
        due("of(" + good + ", 1)", x.of(good, 1), Float.floatToIntBits(want));
    }

    private static ShelfSlots withGoods(int... slots) {
        ShelfSlots x = new ShelfSlots();
        for (int slot : slots) {
            x.good(slot);
        }
        return x;
    }

    private static ShelfSlots with16() {
        ShelfSlots x = new ShelfSlots();
        for (int slot = 0; slot < 16; slot++) {
            x.good(slot);
        }
        return x;
    }

    private static long packed(String text) {
        long out = 0;
        for (char sign : text.toCharArray()) {
            out = out << 8 | sign;
        }
        return out;
    }

    private static int write(ShelfSlots x, String text) {
        int answer = 0;
        for (int from = 0; from < text.length(); from += 8) {
            answer = x.put(packed(text.substring(from, Math.min(from + 8, text.length()))));
        }
        return answer;
    }

    private static void closeAllBut(ShelfSlots x, int... open) {
        for (int slot = 0; slot < 30; slot++) {
            boolean stays = false;
            for (int one : open) {
                stays |= one == slot;
            }
            if (!stays) {
                x.close(slot);
            }
        }
    }

    private static void newObject() {
        promise = 1;
        int[] counts = {0, 0, 0, 0, 0, 0, 0, 0, 0, NONE, 0, 2, 75, 3, 0, 0};
        ShelfSlots x = new ShelfSlots();
        for (int what = 0; what < 16; what++) {
            due("count(" + what + ")", x.count(what), counts[what]);
        }
        for (int slot = 0; slot < 30; slot++) {
            due("ofSlot(" + slot + ", 0)", x.ofSlot(slot, 0), NONE);
            due("ofSlot(" + slot + ", 2)", x.ofSlot(slot, 2), 0);
        }
        due("of(0, 0)", x.of(0, 0), NO_SUCH);
        due("undo()", x.undo(), NOT_POSSIBLE);
        due("restore(0)", x.restore(0), NOT_POSSIBLE);
        due("restore(1)", x.restore(1), NOT_POSSIBLE);
        new ShelfSlots().good(3);
        due("ofSlot(3, 0) behind good(3) in another shed", x.ofSlot(3, 0), NONE);
    }

    private static void set() {
        promise = 2;
        ShelfSlots x = new ShelfSlots();
        int[][] calls = {
            {0, 0, 2}, {0, 9, 0}, {0, 10, BAD_VALUE}, {0, -1, BAD_VALUE}, {0, 9, 9},
            {1, 0, 75}, {1, 100, 0}, {1, 101, BAD_VALUE}, {1, -1, BAD_VALUE}, {1, 7, 100},
            {2, 1, 3}, {2, 9, 1}, {2, 10, BAD_VALUE}, {2, 0, BAD_VALUE}, {2, -1, BAD_VALUE}, {2, 4, 9},
            {3, 1, BAD_VALUE}, {-1, 1, BAD_VALUE}, {LOW, 1, BAD_VALUE}, {HIGH, 1, BAD_VALUE}, {1, LOW, BAD_VALUE}, {1, HIGH, BAD_VALUE},
        };
        for (int[] call : calls) {
            due("set(" + call[0] + ", " + call[1] + ")", x.set(call[0], call[1]), call[2]);
        }
        due("count(11)", x.count(11), 9);
        due("count(12)", x.count(12), 7);
        due("count(13)", x.count(13), 4);
        ShelfSlots y = new ShelfSlots();
        y.set(3, 1);
        due("count(15) behind an error", y.count(15), 0);
        y.set(0, 2);
        due("count(15) behind the same value", y.count(15), 1);
        due("undo()", y.undo(), 0);
    }

    private static void good() {
        promise = 3;
        ShelfSlots x = new ShelfSlots();
        due("good(-1)", x.good(-1), NO_SUCH);
        due("good(30)", x.good(30), NO_SUCH);
        due("good(LOW)", x.good(LOW), NO_SUCH);
        due("good(HIGH)", x.good(HIGH), NO_SUCH);
        due("close(29)", x.close(29), 1);
        due("good(29)", x.good(29), 0);
        due("good(29)", x.good(29), NOT_POSSIBLE);
        for (int n = 1; n < 16; n++) {
            due("good(" + (n - 1) + ")", x.good(n - 1), n);
        }
        due("good(20)", x.good(20), TOO_MANY);
        due("good(29)", x.good(29), NOT_POSSIBLE);
        due("good(30)", x.good(30), NO_SUCH);
        due("count(1)", x.count(1), 16);
        due("ofSlot(14, 0)", x.ofSlot(14, 0), 15);
        due("of(15, 0)", x.of(15, 0), 14);
        dueSpeed(x, 15, 0.0f);
        due("of(15, 2)", x.of(15, 2), 0);
    }

    private static void swap() {
        promise = 4;
        ShelfSlots x = withGoods(4, 9);
        due("swap(30, 30)", x.swap(30, 30), NO_SUCH);
        due("swap(-1, 0)", x.swap(-1, 0), NO_SUCH);
        due("swap(0, -1)", x.swap(0, -1), NO_SUCH);
        due("swap(0, 30)", x.swap(0, 30), NO_SUCH);
        due("swap(LOW, HIGH)", x.swap(LOW, HIGH), NO_SUCH);
        due("swap(4, 4)", x.swap(4, 4), BAD_VALUE);
        due("count(15)", x.count(15), 2);
        due("swap(4, 9)", x.swap(4, 9), 2);
        due("of(0, 0)", x.of(0, 0), 9);
        due("of(1, 0)", x.of(1, 0), 4);
        due("close(29)", x.close(29), 1);
        due("swap(29, 9)", x.swap(29, 9), 1);
        due("of(0, 0)", x.of(0, 0), 29);
        due("ofSlot(9, 0)", x.ofSlot(9, 0), NONE);
        due("ofSlot(29, 0)", x.ofSlot(29, 0), 0);
        due("swap(1, 2)", x.swap(1, 2), 0);
        due("count(15)", x.count(15), 6);
        due("of(0, 5)", x.of(0, 5), 2);
        due("of(1, 5)", x.of(1, 5), 1);
        due("count(6)", x.count(6), 0);
    }

    private static void close() {
        promise = 5;
        ShelfSlots x = withGoods(29);
        due("close(30)", x.close(30), NO_SUCH);
        due("close(-1)", x.close(-1), NO_SUCH);
        due("close(29)", x.close(29), 1);
        due("close(0)", x.close(0), 1);
        due("count(8)", x.count(8), 1 << 29 | 1);
        due("ofSlot(29, 0)", x.ofSlot(29, 0), 0);
        due("pick(1)", x.pick(1), 36);
        due("close(29)", x.close(29), 0);
        due("count(8)", x.count(8), 1);
        due("close(29)", x.close(29), 1);
        due("count(15)", x.count(15), 6);
    }

    private static void pick() {
        promise = 6;
        ShelfSlots x = with16();
        due("pick(0)", x.pick(0), BAD_VALUE);
        due("pick(127)", x.pick(127), BAD_VALUE);
        due("pick(65535)", x.pick(65535), BAD_VALUE);
        due("pick(65536)", x.pick(65536), NO_SUCH);
        due("pick(131071)", x.pick(131071), NO_SUCH);
        due("pick(-1)", x.pick(-1), NO_SUCH);
        due("pick(LOW)", x.pick(LOW), NO_SUCH);
        due("pick(LOW | 1)", x.pick(LOW | 1), NO_SUCH);
        // Goods 0 to 5 fill aisle 0: 1 step there, 5 on, 6 back.
        due("pick(63)", x.pick(63), 12);
        // Good 15 is in aisle 2, place 3: 1 + 3 + 2 * 3 steps away.
        due("pick(32768)", x.pick(32768), 20);
        for (int n = 2; n < 12; n++) {
            due("pick(1)", x.pick(1), 2);
        }
        due("pick(1)", x.pick(1), TOO_MANY);
        due("pick(0)", x.pick(0), BAD_VALUE);
        due("pick(65536)", x.pick(65536), NO_SUCH);
        due("count(2)", x.count(2), 12);
        due("count(3)", x.count(3), 52);
        due("of(0, 2)", x.of(0, 2), 11);
        due("of(0, 3)", x.of(0, 3), 11);
        due("of(5, 2)", x.of(5, 2), 1);
        due("of(6, 2)", x.of(6, 2), 0);
        due("of(15, 2)", x.of(15, 2), 1);
        x.night();
        due("pick(1)", x.pick(1), 2);
        due("of(0, 2)", x.of(0, 2), 1);
        due("of(0, 3)", x.of(0, 3), 12);
        ShelfSlots y = withGoods(0, 1, 2);
        due("pick(8)", y.pick(8), NO_SUCH);
        due("pick(255)", y.pick(255), NO_SUCH);
        due("pick(7)", y.pick(7), 6);
    }

    private static void nightSpeeds() {
        promise = 7;
        ShelfSlots x = withGoods(0, 1);
        x.pick(1);
        x.pick(3);
        x.pick(1);
        due("night()", x.night(), 0);
        dueSpeed(x, 0, 0.75f);
        dueSpeed(x, 1, 0.25f);
        x.pick(2);
        x.set(1, 10);
        due("night()", x.night(), 1);
        dueSpeed(x, 0, 0.75f * 10.0f / 100.0f + 0.0f * 90.0f / 100.0f);
        dueSpeed(x, 1, 0.25f * 10.0f / 100.0f + 1.0f * 90.0f / 100.0f);
        x.set(1, 0);
        x.night();
        dueSpeed(x, 1, 0.0f);
        x.pick(3);
        x.set(1, 100);
        x.night();
        dueSpeed(x, 0, 0.0f);
    }

    private static void nightMoves() {
        promise = 7;
        // Both goods stand at the far end; the one open slot nearer to the desk makes a walk for both longer.
        ShelfSlots x = withGoods(28, 29);
        closeAllBut(x, 5, 28, 29);
        x.set(1, 0);
        due("pick(3)", x.pick(3), 36);
        due("bestSwap(0)", x.bestSwap(0), NONE);
        due("night()", x.night(), 0);
        // The same shed, when nothing is walked: the one that is further away moves, as that weighs less.
        x.set(1, 100);
        due("night()", x.night(), 1);
        due("of(0, 0)", x.of(0, 0), 28);
        due("of(1, 0)", x.of(1, 0), 5);
        // A walk that stays as long is no hindrance: the two change their places.
        ShelfSlots y = withGoods(0, 1);
        closeAllBut(y, 0, 1);
        y.pick(3);
        y.pick(2);
        y.pick(3);
        due("ifSwapped(0, 1)", y.ifSwapped(0, 1), 10);
        due("night()", y.night(), 1);
        due("of(1, 0)", y.of(1, 0), 0);
        // A closed slot moves nothing and takes nothing.
        ShelfSlots z = withGoods(29);
        z.pick(1);
        z.close(29);
        due("night()", z.night(), 0);
        z.close(29);
        closeAllBut(z, 29);
        due("night()", z.night(), 0);
        z.close(17);
        z.set(0, 0);
        due("night()", z.night(), 0);
        z.set(0, 9);
        due("night()", z.night(), 1);
        due("of(0, 0)", z.of(0, 0), 17);
        // Up to MOVES: three fast goods, two moves of a night.
        ShelfSlots m = withGoods(29, 28, 27);
        m.pick(1);
        m.pick(2);
        m.pick(4);
        due("night()", m.night(), 2);
        due("count(6)", m.count(6), 2);
        due("night()", m.night(), 1);
        due("count(6)", m.count(6), 3);
        due("night()", m.night(), 0);
        due("of(0, 5)", m.of(0, 5), 1);
    }

    private static void nightTies() {
        promise = 7;
        // Slots 3 and 6 are both 4 steps from the desk: the lower one of the lower slots.
        ShelfSlots x = withGoods(29);
        closeAllBut(x, 3, 6, 29);
        x.pick(1);
        due("bestSwap(0)", x.bestSwap(0), 3);
        due("night()", x.night(), 1);
        due("of(0, 0)", x.of(0, 0), 3);
        // Slots 5 and 8 are both 6 steps away, and their goods as fast: the lower one of the higher slots.
        ShelfSlots y = withGoods(8, 5);
        y.set(0, 1);
        y.pick(1);
        y.pick(2);
        due("bestSwap(1)", y.bestSwap(1), 5);
        due("night()", y.night(), 1);
        due("of(1, 0)", y.of(1, 0), 0);
        due("of(0, 0)", y.of(0, 0), 8);
    }

    private static void nightEnds() {
        promise = 7;
        ShelfSlots x = withGoods(0, 29);
        x.pick(1);
        x.pick(3);
        x.night();
        due("count(0)", x.count(0), 1);
        due("count(2)", x.count(2), 0);
        due("count(3)", x.count(3), 0);
        due("count(4)", x.count(4), 38);
        due("of(0, 2)", x.of(0, 2), 0);
        due("of(0, 3)", x.of(0, 3), 2);
        due("basket(1, 1, 0)", x.basket(1, 1, 0), 3);
        due("basket(1, 1, 1)", x.basket(1, 1, 1), 36);
        due("basket(1, 2, 0)", x.basket(1, 2, 0), NO_SUCH);
        x.night();
        due("count(4)", x.count(4), 0);
        due("basket(1, 0, 0)", x.basket(1, 0, 0), NO_SUCH);
        due("count(5)", x.count(5), 38);
    }

    /** More calls than an object is used for; the promise names the edge all the same. */
    private static void mostNights() {
        promise = 7;
        ShelfSlots x = withGoods(0);
        for (int n = 0; n < 9999; n++) {
            x.night();
        }
        due("count(0)", x.count(0), 9999);
        x.pick(1);
        due("night()", x.night(), NOT_POSSIBLE);
        due("count(0)", x.count(0), 9999);
        due("count(2)", x.count(2), 1);
        dueSpeed(x, 0, 0.0f);
        due("undo()", x.undo(), 5);
        due("count(2)", x.count(2), 0);
    }

    private static void of() {
        promise = 8;
        ShelfSlots x = withGoods(13);
        due("of(1, 0)", x.of(1, 0), NO_SUCH);
        due("of(-1, 0)", x.of(-1, 0), NO_SUCH);
        due("of(1, 6)", x.of(1, 6), NO_SUCH);
        due("of(HIGH, 0)", x.of(HIGH, 0), NO_SUCH);
        due("of(LOW, 0)", x.of(LOW, 0), NO_SUCH);
        due("of(0, 6)", x.of(0, 6), BAD_VALUE);
        due("of(0, -1)", x.of(0, -1), BAD_VALUE);
        due("of(0, LOW)", x.of(0, LOW), BAD_VALUE);
        x.pick(1);
        x.pick(1);
        x.swap(13, 12);
        long[] want = {12, 0, 2, 2, 7, 1};
        for (int what = 0; what < 6; what++) {
            due("of(0, " + what + ")", x.of(0, what), want[what]);
        }
        x.night();
        long[] behind = {0, Float.floatToIntBits(0.5f), 0, 2, 1, 2};
        for (int what = 0; what < 6; what++) {
            due("of(0, " + what + ")", x.of(0, what), behind[what]);
        }
    }

    private static void ofSlot() {
        promise = 9;
        ShelfSlots x = withGoods(13, 0);
        due("ofSlot(30, 0)", x.ofSlot(30, 0), NO_SUCH);
        due("ofSlot(-1, 0)", x.ofSlot(-1, 0), NO_SUCH);
        due("ofSlot(30, 3)", x.ofSlot(30, 3), NO_SUCH);
        due("ofSlot(0, 3)", x.ofSlot(0, 3), BAD_VALUE);
        due("ofSlot(0, -1)", x.ofSlot(0, -1), BAD_VALUE);
        due("ofSlot(13, 0)", x.ofSlot(13, 0), 0);
        due("ofSlot(0, 0)", x.ofSlot(0, 0), 1);
        due("ofSlot(29, 0)", x.ofSlot(29, 0), NONE);
        for (int slot = 0; slot < 30; slot++) {
            due("ofSlot(" + slot + ", 1)", x.ofSlot(slot, 1), 1 + slot % 6 + 3 * (slot / 6));
        }
        x.set(2, 9);
        due("ofSlot(29, 1)", x.ofSlot(29, 1), 42);
        due("ofSlot(0, 1)", x.ofSlot(0, 1), 1);
        x.close(7);
        due("ofSlot(7, 2)", x.ofSlot(7, 2), 1);
        due("ofSlot(8, 2)", x.ofSlot(8, 2), 0);
    }

    private static void steps() {
        promise = 10;
        ShelfSlots x = new ShelfSlots();
        due("steps(30, 0)", x.steps(30, 0), NO_SUCH);
        due("steps(0, 30)", x.steps(0, 30), NO_SUCH);
        due("steps(-1, 0)", x.steps(-1, 0), NO_SUCH);
        due("steps(0, -1)", x.steps(0, -1), NO_SUCH);
        due("steps(LOW, HIGH)", x.steps(LOW, HIGH), NO_SUCH);
        due("steps(5, 5)", x.steps(5, 5), 0);
        due("steps(0, 5)", x.steps(0, 5), 5);
        due("steps(11, 7)", x.steps(11, 7), 4);
        due("steps(5, 6)", x.steps(5, 6), 8);
        due("steps(6, 5)", x.steps(6, 5), 8);
        due("steps(5, 29)", x.steps(5, 29), 22);
        due("steps(29, 0)", x.steps(29, 0), 17);
        x.set(2, 1);
        due("steps(5, 29)", x.steps(5, 29), 14);
        due("steps(24, 29)", x.steps(24, 29), 5);
    }

    private static void basket() {
        promise = 11;
        ShelfSlots x = withGoods(2, 29);
        x.pick(2);
        x.pick(1);
        due("basket(0, 0, 0)", x.basket(0, 0, 0), 2);
        due("basket(0, 1, 0)", x.basket(0, 1, 0), 1);
        due("basket(0, 2, 0)", x.basket(0, 2, 0), NO_SUCH);
        due("basket(0, 12, 0)", x.basket(0, 12, 0), NO_SUCH);
        due("basket(0, -1, 0)", x.basket(0, -1, 0), NO_SUCH);
        due("basket(0, HIGH, 0)", x.basket(0, HIGH, 0), NO_SUCH);
        due("basket(0, 2, 3)", x.basket(0, 2, 3), NO_SUCH);
        due("basket(1, 0, 0)", x.basket(1, 0, 0), NO_SUCH);
        due("basket(-1, 0, 0)", x.basket(-1, 0, 0), NO_SUCH);
        due("basket(2, 0, 3)", x.basket(2, 0, 3), NO_SUCH);
        due("basket(0, 0, 3)", x.basket(0, 0, 3), BAD_VALUE);
        due("basket(0, 0, -1)", x.basket(0, 0, -1), BAD_VALUE);
        x.swap(29, 5);
        due("basket(0, 0, 1)", x.basket(0, 0, 1), 36);
        due("basket(0, 0, 2)", x.basket(0, 0, 2), 12);
        x.set(0, 0);
        x.night();
        due("basket(0, 0, 0)", x.basket(0, 0, 0), NO_SUCH);
        due("basket(1, 0, 1)", x.basket(1, 0, 1), 36);
        due("basket(1, 0, 2)", x.basket(1, 0, 2), 12);
        due("basket(1, 1, 0)", x.basket(1, 1, 0), 1);
        due("basket(1, 0, 4)", x.basket(1, 0, 4), BAD_VALUE);
    }

    private static void often() {
        promise = 12;
        ShelfSlots x = withGoods(0, 1, 2, 3, 4, 5, 6);
        due("often(0)", x.often(0), BAD_VALUE);
        due("often(127)", x.often(127), BAD_VALUE);
        due("often(128)", x.often(128), NO_SUCH);
        due("often(-1)", x.often(-1), NO_SUCH);
        due("often(1)", x.often(1), 0);
        x.pick(3);
        x.pick(1);
        x.pick(3);
        due("often(3)", x.often(3), 2);
        due("often(1)", x.often(1), 1);
        due("often(2)", x.often(2), 0);
        due("count(10)", x.count(10), 2);
        x.night();
        x.pick(3);
        due("often(3)", x.often(3), 3);
        due("count(10)", x.count(10), 2);
        x.undo();
        x.undo();
        x.undo();
        due("often(3)", x.often(3), 1);
        x.undo();
        due("count(10)", x.count(10), 1);
        x.undo();
        due("often(3)", x.often(3), 0);
        due("count(10)", x.count(10), 0);
    }

    private static void count() {
        promise = 13;
        ShelfSlots x = withGoods(0, 1, 29);
        due("count(-1)", x.count(-1), BAD_VALUE);
        due("count(16)", x.count(16), BAD_VALUE);
        due("count(LOW)", x.count(LOW), BAD_VALUE);
        due("count(HIGH)", x.count(HIGH), BAD_VALUE);
        due("count(9)", x.count(9), 0);
        x.set(0, 1);
        x.set(1, 50);
        x.set(2, 5);
        x.close(0);
        x.pick(6);
        x.pick(4);
        x.pick(6);
        x.put(packed("g1"));
        // Good 2 is 26 steps away, good 1 is 2, and 26 lie between them: 54, 52 and 54.
        long[] before = {0, 3, 3, 160, 0, 160, 0, 0, 1, 0, 2, 1, 50, 5, 2, 6};
        for (int what = 0; what < 16; what++) {
            due("count(" + what + ")", x.count(what), before[what]);
        }
        // Speeds 0, 1, 1.5; slot 0 is closed, so slot 2, 3 steps away, and slot 1 are what good 2 might have.
        due("night()", x.night(), 1);
        due("of(2, 0)", x.of(2, 0), 2);
        long[] behind = {1, 3, 0, 0, 160, 160, 1, Float.floatToIntBits(6.5f), 1, 2, 2, 1, 50, 5, 2, 6};
        for (int what = 0; what < 16; what++) {
            due("count(" + what + ")", x.count(what), behind[what]);
        }
        x.pick(2);
        x.night();
        // Good 1: 0.5 + 0.5; good 2: 0.75.
        due("count(9)", x.count(9), 1);
        ShelfSlots y = withGoods(0, 1, 2);
        y.pick(6);
        y.night();
        due("count(9)", y.count(9), 1);
    }

    private static void meanSpeed() {
        promise = 14;
        ShelfSlots x = new ShelfSlots();
        due("meanSpeed()", x.meanSpeed(), 0L);
        x.good(0);
        x.good(1);
        x.good(2);
        due("meanSpeed()", x.meanSpeed(), 0L);
        x.set(1, 90);
        x.pick(1);
        x.pick(1);
        x.pick(3);
        x.night();
        double sum = (double) (3.0f * 10.0f / 100.0f) + (double) (1.0f * 10.0f / 100.0f);
        due("meanSpeed()", x.meanSpeed(), Double.doubleToLongBits((0.0 + sum + 0.0) / 3.0));
        ShelfSlots y = withGoods(0);
        y.set(1, 0);
        for (int n = 0; n < 12; n++) {
            y.pick(1);
        }
        y.night();
        due("meanSpeed()", y.meanSpeed(), Double.doubleToLongBits(12.0));
        dueSpeed(y, 0, 12.0f);
    }

    private static void smallSpeeds() {
        promise = 14;
        ShelfSlots x = withGoods(0, 1, 7);
        x.pick(3);
        x.pick(1);
        x.set(1, 1);
        float first = 0.0f;
        float second = 0.0f;
        for (int n = 0; n < 30; n++) {
            first = first * 1.0f / 100.0f + (n == 0 ? 2.0f : 0.0f) * 99.0f / 100.0f;
            second = second * 1.0f / 100.0f + (n == 0 ? 1.0f : 0.0f) * 99.0f / 100.0f;
            x.night();
            dueSpeed(x, 0, first);
            dueSpeed(x, 1, second);
            due("count(7)", x.count(7), Float.floatToIntBits(0.0f + first * 1.0f + second * 2.0f));
            due("meanSpeed()", x.meanSpeed(), Double.doubleToLongBits((0.0 + first + second) / 3.0));
        }
        due("of(0, 1)", x.of(0, 1), 0);
    }

    private static void walk() {
        promise = 15;
        ShelfSlots x = withGoods(29, 0, 13, 2);
        due("walk(0)", x.walk(0), BAD_VALUE);
        due("walk(16)", x.walk(16), NO_SUCH);
        due("walk(-1)", x.walk(-1), NO_SUCH);
        due("walk(31)", x.walk(31), NO_SUCH);
        // Desk, slot 0 (1), slot 2 (2), slot 13 (2 + 1 + 6), slot 29 (1 + 5 + 6), desk (18).
        due("walk(15)", x.walk(15), 42);
        due("walk(5)", x.walk(5), 38);
        due("count(2)", x.count(2), 0);
        due("count(15)", x.count(15), 4);
        for (int n = 0; n < 12; n++) {
            x.pick(2);
        }
        due("walk(2)", x.walk(2), 2);
        ShelfSlots y = with16();
        due("walk(127)", y.walk(127), BAD_VALUE);
        due("walk(126)", y.walk(126), 2 + 4 + 8 + 4);
        y.set(2, 1);
        due("walk(126)", y.walk(126), 2 + 4 + 6 + 2);
    }

    private static void stop() {
        promise = 16;
        ShelfSlots x = withGoods(29, 0, 13, 2);
        int[] stops = {1, 3, 2, 0};
        for (int rank = 0; rank < 4; rank++) {
            due("stop(15, " + rank + ")", x.stop(15, rank), stops[rank]);
        }
        due("stop(15, 4)", x.stop(15, 4), NONE);
        due("stop(15, HIGH)", x.stop(15, HIGH), NONE);
        due("stop(15, -1)", x.stop(15, -1), NONE);
        due("stop(15, LOW)", x.stop(15, LOW), NONE);
        due("stop(0, -1)", x.stop(0, -1), BAD_VALUE);
        due("stop(16, 9)", x.stop(16, 9), NO_SUCH);
        due("stop(1, 0)", x.stop(1, 0), 0);
        due("stop(1, 1)", x.stop(1, 1), NONE);
        // Slots 3 and 6 are as near: the lower good comes first, whatever its slot.
        due("stop(3, 0)", withGoods(6, 3).stop(3, 0), 0);
        due("stop(3, 0)", withGoods(3, 6).stop(3, 0), 0);
        // From slot 8, slots 7 and 9 are as near, but slot 7 came first: its good is nearest to the desk.
        ShelfSlots y = withGoods(9, 7, 8);
        due("stop(7, 0)", y.stop(7, 0), 1);
        due("stop(7, 1)", y.stop(7, 1), 2);
        due("stop(7, 2)", y.stop(7, 2), 0);
        // From slot 1, slots 5 and 6 are as near: the lower good again.
        int[][] both = {{6, 1, 5}, {5, 1, 6}};
        for (int[] slots : both) {
            ShelfSlots t = withGoods(slots);
            due("stop(7, 0)", t.stop(7, 0), 1);
            due("stop(7, 1)", t.stop(7, 1), 0);
            due("stop(7, 2)", t.stop(7, 2), 2);
        }
        ShelfSlots w = withGoods(5, 8, 2);
        // From slot 2: slot 5 is 3 away, slot 8 is 7; from slot 5, slot 8 is 10.
        due("stop(7, 0)", w.stop(7, 0), 2);
        due("stop(7, 1)", w.stop(7, 1), 0);
        due("walk(7)", w.walk(7), 3 + 3 + 10 + 6);
        due("stop(127, 0)", with16().stop(127, 0), BAD_VALUE);
    }

    private static void shortest() {
        promise = 17;
        ShelfSlots x = withGoods(0, 6, 5);
        due("shortest(0)", x.shortest(0), BAD_VALUE);
        due("shortest(8)", x.shortest(8), NO_SUCH);
        due("shortest(-1)", x.shortest(-1), NO_SUCH);
        due("shortest(1)", x.shortest(1), 2);
        due("shortest(7)", x.shortest(7), 1 + 5 + 8 + 4);
        due("shortest(127)", with16().shortest(127), BAD_VALUE);
        due("shortest(63)", with16().shortest(63), 12);
        // Nearest next, and shortest too: slots 1, 4, 6, 12.
        ShelfSlots y = withGoods(1, 4, 6, 12);
        y.set(2, 2);
        due("walk(15)", y.walk(15), 2 + 3 + 6 + 2 + 5);
        due("shortest(15)", y.shortest(15), 18);
        ShelfSlots z = withGoods(1, 5, 6);
        z.set(2, 1);
        // Nearest next: slot 1 (2), slot 6 (2), slot 5 (6), desk (6); shorter: 1, 5, 6 with 2 + 4 + 6 + 2.
        due("walk(7)", z.walk(7), 16);
        due("shortest(7)", z.shortest(7), 14);
    }

    private static void bestSwap() {
        promise = 18;
        ShelfSlots x = withGoods(29, 1);
        due("bestSwap(-1)", x.bestSwap(-1), BAD_VALUE);
        due("bestSwap(2)", x.bestSwap(2), BAD_VALUE);
        due("bestSwap(LOW)", x.bestSwap(LOW), BAD_VALUE);
        due("bestSwap(0)", x.bestSwap(0), NONE);
        due("bestSwap(1)", x.bestSwap(1), NONE);
        x.pick(1);
        // Speeds change first: good 0 becomes 0.25 by this night, though it is 0 now.
        due("bestSwap(0)", x.bestSwap(0), 0);
        due("bestSwap(1)", x.bestSwap(1), 29);
        dueSpeed(x, 0, 0.0f);
        due("of(0, 0)", x.of(0, 0), 29);
        due("of(0, 2)", x.of(0, 2), 1);
        due("of(0, 5)", x.of(0, 5), 0);
        due("count(0)", x.count(0), 0);
        due("count(15)", x.count(15), 3);
        x.set(0, 0);
        due("bestSwap(1)", x.bestSwap(1), 29);
        x.close(0);
        due("bestSwap(0)", x.bestSwap(0), 1);
        x.set(1, 100);
        due("bestSwap(0)", x.bestSwap(0), NONE);
        due("bestSwap(3)", x.bestSwap(3), BAD_VALUE);
    }

    private static void ifSwapped() {
        promise = 19;
        ShelfSlots x = withGoods(29, 0);
        due("ifSwapped(0, 29)", x.ifSwapped(0, 29), 0);
        x.pick(1);
        x.pick(3);
        due("ifSwapped(30, 0)", x.ifSwapped(30, 0), NO_SUCH);
        due("ifSwapped(0, 30)", x.ifSwapped(0, 30), NO_SUCH);
        due("ifSwapped(-1, -1)", x.ifSwapped(-1, -1), NO_SUCH);
        due("ifSwapped(30, 30)", x.ifSwapped(30, 30), NO_SUCH);
        due("ifSwapped(7, 7)", x.ifSwapped(7, 7), 72);
        due("ifSwapped(29, 29)", x.ifSwapped(29, 29), 72);
        due("ifSwapped(7, 8)", x.ifSwapped(7, 8), 72);
        due("ifSwapped(29, 1)", x.ifSwapped(29, 1), 8);
        due("ifSwapped(1, 29)", x.ifSwapped(1, 29), 8);
        due("ifSwapped(0, 29)", x.ifSwapped(0, 29), 38);
        x.close(29);
        due("ifSwapped(0, 29)", x.ifSwapped(0, 29), 38);
        due("of(0, 0)", x.of(0, 0), 29);
        due("of(0, 5)", x.of(0, 5), 0);
        due("count(3)", x.count(3), 72);
        // Anew with the goods as they stand, not as they were picked.
        x.swap(29, 1);
        due("ifSwapped(3, 3)", x.ifSwapped(3, 3), 8);
        due("count(3)", x.count(3), 72);
        x.night();
        due("ifSwapped(3, 3)", x.ifSwapped(3, 3), 0);
    }

    private static void badly() {
        promise = 20;
        ShelfSlots x = withGoods(3, 6, 0, 29);
        due("badly()", x.badly(), 0);
        x.set(0, 0);
        x.set(1, 0);
        x.pick(1);
        x.pick(3);
        x.night();
        // Speeds 2, 1, 0, 0: goods 0 and 1 are as far from the desk, good 2 is nearer to it.
        due("badly()", x.badly(), 3);
        x.swap(0, 4);
        due("badly()", x.badly(), 0);
        x.pick(4);
        x.pick(8);
        x.pick(8);
        x.night();
        // Speeds 0, 0, 1, 2 at 4, 4, 5, 18 steps.
        due("badly()", x.badly(), 12);
        x.pick(15);
        x.night();
        due("badly()", x.badly(), 0);
    }

    private static void put() {
        promise = 21;
        ShelfSlots x = new ShelfSlots();
        due("put(0)", x.put(0L), BAD_VALUE);
        due("put(32)", x.put(32L), BAD_VALUE);
        due("put(127)", x.put(127L), BAD_VALUE);
        due("put(255)", x.put(255L), BAD_VALUE);
        due("put(-1)", x.put(-1L), BAD_VALUE);
        due("put(Long.MIN_VALUE)", x.put(Long.MIN_VALUE), BAD_VALUE);
        due("put(0x6700)", x.put(0x6700L), BAD_VALUE);
        due("put(0x670067)", x.put(0x670067L), BAD_VALUE);
        due("put(0x100000067)", x.put(0x100000067L), BAD_VALUE);
        due("put(0x0167)", x.put(0x0167L), BAD_VALUE);
        due("put(0x6E20)", x.put(0x6E20L), BAD_VALUE);
        due("put(0x8067676767676767)", x.put(0x8067676767676767L), BAD_VALUE);
        due("count(14)", x.count(14), 0);
        due("put(33)", x.put(33L), 1);
        due("put(126)", x.put(126L), 2);
        due("count(14)", x.count(14), 2);
        due("count(15)", x.count(15), 0);
        x.wipe();
        for (int n = 1; n < 10; n++) {
            due("put of 8", x.put(packed("g1;g2;g3")), 8 * n);
        }
        due("put of 7", x.put(packed("gggggg1")), 79);
        due("put of 2", x.put(packed("gg")), TOO_MANY);
        due("put of a bad one", x.put(packed("g\u007f")), BAD_VALUE);
        due("put of 1", x.put(packed("g")), 80);
        due("put of 1", x.put(packed("g")), TOO_MANY);
        due("put(0)", x.put(0L), BAD_VALUE);
        due("count(14)", x.count(14), 80);
        ShelfSlots y = new ShelfSlots();
        due("put in order", y.put(packed("g7;x9")), 5);
        due("put in order", y.put(packed(";m7-29")), 11);
        due("carryOut()", y.carryOut(), 3);
        due("of(0, 0)", y.of(0, 0), 29);
        due("count(8)", y.count(8), 512);
    }

    private static void wipe() {
        promise = 22;
        ShelfSlots x = new ShelfSlots();
        due("wipe()", x.wipe(), 0);
        write(x, "g1;g2;g3;n");
        due("wipe()", x.wipe(), 10);
        due("wipe()", x.wipe(), 0);
        due("count(14)", x.count(14), 0);
        due("count(15)", x.count(15), 0);
        due("fault()", x.fault(), 0);
    }

    private static void faultOf(String text, int want) {
        ShelfSlots x = new ShelfSlots();
        write(x, text);
        due("fault() of " + text, x.fault(), want);
        due("count(14) with " + text, x.count(14), text.length());
        due("carryOut() of " + text, x.carryOut() == BAD_TEXT ? 1 : 0, want == NONE ? 0 : 1);
        due("count(14) behind " + text, x.count(14), want == NONE ? 0 : text.length());
        due("count(15) behind " + text, x.count(15), want == NONE ? 1 : 0);
    }

    private static void fault() {
        promise = 23;
        String[] good = {"n", "g0", "g99", "g10", "b0", "b0,0", "b1,22,33,4", "m0-0", "m12-34", "x5", "n;n", "g1;b2,3;m4-5;x6;n"};
        for (String text : good) {
            faultOf(text, NONE);
        }
        Object[][] bad = {
            {"", 0}, {"g", 1}, {"b", 1}, {"m", 1}, {"x", 1}, {"m1", 2}, {"m12", 3}, {"m1-", 3}, {"b1,", 3}, {"n;", 2}, {"g1;", 3},
            {"a", 0}, {"G1", 0}, {"1", 0}, {";", 0}, {"n1", 1}, {"nn", 1}, {"n,n", 1}, {"g;", 1}, {"g-1", 1}, {"gg", 1},
            {"g00", 2}, {"g01", 2}, {"g100", 3}, {"g123", 3}, {"g1,2", 2}, {"g1-2", 2}, {"x1,2", 2}, {"x09", 2}, {"x100", 3},
            {"b01", 2}, {"b1;,", 3}, {"b1-2", 2}, {"b,1", 1}, {"b1,,2", 3}, {"b1,02", 4}, {"b1,100", 5}, {"b10,999", 6}, {"b1,n", 3},
            {"m1;n", 2}, {"m1,2", 2}, {"m-1", 1}, {"m1--", 3}, {"m1-2-3", 4}, {"m1-2,3", 4}, {"m01-2", 2}, {"m100-2", 3},
            {"m1-02", 4}, {"m1-234", 5}, {"m0-100", 5}, {"n;;n", 2}, {"g1;z", 3}, {"g1;n;g", 6}, {"g1!", 2}, {"n~", 1},
        };
        for (Object[] row : bad) {
            faultOf((String) row[0], (Integer) row[1]);
        }
        faultOf("g1;".repeat(26) + "n;", 80);
        faultOf("g1;".repeat(26) + "n1", 79);
        faultOf("g1;".repeat(26) + "g7", NONE);
    }

    private static void carryOut() {
        promise = 24;
        ShelfSlots x = new ShelfSlots();
        write(x, "g29;g0;b0;b0,1,0;m29-5;x7;n;b1");
        due("carryOut()", x.carryOut(), 8);
        due("count(14)", x.count(14), 0);
        due("count(15)", x.count(15), 1);
        due("basket(1, 0, 0)", x.basket(1, 0, 0), 1);
        due("basket(1, 0, 1)", x.basket(1, 0, 1), 36);
        due("basket(1, 1, 0)", x.basket(1, 1, 0), 3);
        due("basket(0, 0, 0)", x.basket(0, 0, 0), 2);
        due("count(8)", x.count(8), 128);
        due("count(0)", x.count(0), 1);
        // By hand to slot 5, by night to slot 1 and to slot 0.
        due("of(0, 5)", x.of(0, 5), 3);
        due("carryOut() of nothing", x.carryOut(), BAD_TEXT);
        due("undo()", x.undo(), 0);
        due("count(1)", x.count(1), 0);
        due("count(8)", x.count(8), 0);
        due("count(14)", x.count(14), 0);
        // Up to the first error, of whatever kind; what was carried out stays.
        String[] errors = {"g30", "g3", "m1-1", "m1-30", "m30-1", "x30", "x99", "b1", "b16", "b31", "b32", "b99", "b0,63", "b0,64"};
        for (String error : errors) {
            ShelfSlots y = new ShelfSlots();
            write(y, "g3;x4;" + error + ";n");
            due("carryOut() with " + error, y.carryOut(), 2);
            due("count(0)", y.count(0), 0);
            due("count(1)", y.count(1), 1);
            due("count(8)", y.count(8), 16);
            due("count(2)", y.count(2), 0);
            due("count(14)", y.count(14), 0);
            due("count(15)", y.count(15), 1);
        }
        ShelfSlots z = with16();
        write(z, "b0,1,2,3,4,5,5,5;b0,1,2,3,4,5,6;n");
        due("carryOut()", z.carryOut(), 1);
        due("basket(0, 0, 0)", z.basket(0, 0, 0), 63);
        write(z, "b32,0");
        due("carryOut()", z.carryOut(), 0);
        due("count(15)", z.count(15), 6);
        write(z, "n;".repeat(39) + "n");
        due("carryOut()", z.carryOut(), 40);
        due("count(0)", z.count(0), 40);
        write(z, "b15;".repeat(13) + "n");
        due("carryOut()", z.carryOut(), 12);
        due("count(0)", z.count(0), 40);
    }

    private static void undo() {
        promise = 25;
        ShelfSlots x = new ShelfSlots();
        x.good(29);
        x.save(0);
        x.pick(1);
        x.set(1, 40);
        x.night();
        write(x, "g1");
        x.close(3);
        due("undo()", x.undo(), 4);
        due("count(8)", x.count(8), 0);
        due("count(14)", x.count(14), 2);
        due("undo()", x.undo(), 3);
        due("count(0)", x.count(0), 0);
        due("of(0, 0)", x.of(0, 0), 29);
        due("ofSlot(0, 0)", x.ofSlot(0, 0), NONE);
        due("of(0, 2)", x.of(0, 2), 1);
        due("of(0, 5)", x.of(0, 5), 0);
        due("count(6)", x.count(6), 0);
        dueSpeed(x, 0, 0.0f);
        due("basket(0, 0, 1)", x.basket(0, 0, 1), 36);
        due("basket(1, 0, 1)", x.basket(1, 0, 1), NO_SUCH);
        due("count(12)", x.count(12), 40);
        due("undo()", x.undo(), 2);
        due("count(12)", x.count(12), 75);
        due("undo()", x.undo(), 1);
        due("count(5)", x.count(5), 0);
        due("often(1)", x.often(1), 0);
        due("undo()", x.undo(), 0);
        due("of(0, 0)", x.of(0, 0), NO_SUCH);
        due("undo()", x.undo(), NOT_POSSIBLE);
        due("restore(0)", x.restore(0), 1);
        due("of(0, 0)", x.of(0, 0), 29);
        due("undo()", x.undo(), 0);
        due("of(0, 0)", x.of(0, 0), NO_SUCH);
        due("count(14)", x.count(14), 2);
    }

    private static void undoLimit() {
        promise = 25;
        ShelfSlots x = new ShelfSlots();
        for (int n = 0; n < 9; n++) {
            x.good(n);
            due("count(15)", x.count(15), Math.min(n + 1, 6));
        }
        int[] errors = {x.good(0), x.swap(0, 0), x.close(30), x.pick(0), x.set(0, 10), x.restore(0), x.restore(2), x.carryOut()};
        for (int error : errors) {
            due("an error is below 0", error < 0 ? 1 : 0, 1);
        }
        x.walk(1);
        x.bestSwap(0);
        x.ifSwapped(0, 1);
        x.save(1);
        for (int n = 5; n >= 0; n--) {
            due("undo()", x.undo(), n);
            due("count(1)", x.count(1), n + 3);
        }
        due("undo()", x.undo(), NOT_POSSIBLE);
        due("count(1)", x.count(1), 3);
        // What is recorded behind an undo takes the place of what was undone.
        x.good(20);
        x.good(21);
        due("undo()", x.undo(), 1);
        x.close(5);
        due("undo()", x.undo(), 1);
        due("undo()", x.undo(), 0);
        due("count(1)", x.count(1), 3);
    }

    private static void saveAndRestore() {
        promise = 26;
        ShelfSlots x = withGoods(29);
        due("save(-1)", x.save(-1), BAD_VALUE);
        due("save(2)", x.save(2), BAD_VALUE);
        due("save(LOW)", x.save(LOW), BAD_VALUE);
        due("save(HIGH)", x.save(HIGH), BAD_VALUE);
        x.pick(1);
        x.set(2, 4);
        due("save(0)", x.save(0), 1);
        due("count(15)", x.count(15), 3);
        x.good(3);
        due("save(1)", x.save(1), 2);
        x.night();
        write(x, "n");
        promise = 27;
        due("restore(-1)", x.restore(-1), BAD_VALUE);
        due("restore(2)", x.restore(2), BAD_VALUE);
        due("restore(LOW)", x.restore(LOW), BAD_VALUE);
        due("count(15)", x.count(15), 5);
        due("restore(0)", x.restore(0), 1);
        due("count(15)", x.count(15), 6);
        due("count(14)", x.count(14), 1);
        due("count(2)", x.count(2), 1);
        due("count(13)", x.count(13), 4);
        due("count(0)", x.count(0), 0);
        due("ofSlot(3, 0)", x.ofSlot(3, 0), NONE);
        due("often(1)", x.often(1), 1);
        x.pick(1);
        due("restore(1)", x.restore(1), 2);
        due("often(1)", x.often(1), 1);
        due("ofSlot(3, 0)", x.ofSlot(3, 0), 1);
        due("undo()", x.undo(), 5);
        due("often(1)", x.often(1), 2);
        // The slot keeps what is in it until it is overwritten.
        due("restore(0)", x.restore(0), 1);
        due("count(2)", x.count(2), 1);
        x.good(7);
        x.good(8);
        due("save(0)", x.save(0), 3);
        x.undo();
        due("restore(0)", x.restore(0), 3);
        ShelfSlots y = new ShelfSlots();
        due("save(1) of nothing", y.save(1), 0);
        due("restore(0)", y.restore(0), NOT_POSSIBLE);
        due("count(15)", y.count(15), 0);
        due("restore(1)", y.restore(1), 0);
        due("count(15)", y.count(15), 1);
    }
}
