import java.util.Random;

/** Long runs of calls, always the same ones, on the class and on the plain model; every answer is compared. */
public final class ModelTest {
    private static final int RUNS = 240;
    private static final int CALLS = 512;
    private static final int[] ODD = {Integer.MIN_VALUE, -7, -6, -2, -1, 16, 29, 30, 31, 32, 99, 100, 101, Integer.MAX_VALUE};

    private final Random random;
    private final ShelfSlots real = new ShelfSlots();
    private final Model model = new Model();
    private final int run;
    private final int kind;
    private int goods;
    private String text = "";

    private ModelTest(int run) {
        this.run = run;
        this.kind = run % 6;
        this.random = new Random(1000 + run);
    }

    public static void main(String[] args) {
        int wrong = 0;
        for (int run = 0; run < RUNS; run++) {
            wrong += new ModelTest(run).compare() ? 0 : 1;
        }
        System.out.println(wrong == 0 ? "all runs are as the model's" : wrong + " runs are not as the model's");
        if (wrong != 0) {
            System.exit(1);
        }
    }

    private boolean compare() {
        int made = 0;
        while (made < CALLS) {
            made++;
            if (!(made < 14 && kind < 4 ? same("good", slot(), 0, 0) : oneCall())) {
                System.out.println("run " + run + ": the wrong call was call " + made);
                return false;
            }
        }
        return true;
    }

    private boolean oneCall() {
        goods = model.count(1);
        int dice = random.nextInt(100);
        if (dice < 4) return same("good", slot(), 0, 0);
        if (dice < 8) return same("swap", slot(), slot(), 0);
        if (dice < (kind == 1 ? 22 : 11)) return same("close", slot(), 0, 0);
        if (dice < 38) return same("pick", basket(), 0, 0);
        if (dice < 44) return same("night", 0, 0, 0);
        if (dice < 47) return setting();
        if (dice < 53) return puts();
        if (dice < 55) return same("carryOut", 0, 0, 0);
        if (dice < 56) return same("wipe", 0, 0, 0);
        if (dice < 58) return same("fault", 0, 0, 0);
        if (dice < 61) return same("undo", 0, 0, 0);
        if (dice < 62) return same("save", small(2), 0, 0);
        if (dice < 63) return same("restore", small(2), 0, 0);
        return asks(random.nextInt(14));
    }

    private boolean asks(int which) {
        switch (which) {
            case 0: case 1: case 2: return same("of", small(Math.max(goods, 1)), small(6), 0);
            case 3: return same("ofSlot", slot(), small(3), 0);
            case 4: return same("steps", slot(), slot(), 0);
            case 5: return same("basket", small(2), small(6), small(3));
            case 6: return same("often", basket(), 0, 0);
            case 7: return same("count", small(16), 0, 0);
            case 8: return same("meanSpeed", 0, 0, 0);
            case 9: return same("walk", basket(), 0, 0) && same("stop", basket(), small(6), 0);
            case 10: return same("shortest", basket(), 0, 0);
            case 11: return same("bestSwap", small(2), 0, 0);
            case 12: return same("ifSwapped", slot(), slot(), 0);
            default: return same("badly", 0, 0, 0);
        }
    }

    private int odd() {
        return ODD[random.nextInt(ODD.length)];
    }

    private int small(int bound) {
        return random.nextInt(25) == 0 ? odd() : random.nextInt(bound + (random.nextInt(20) == 0 ? 1 : 0));
    }

    private int slot() {
        return small(kind == 2 ? 8 : 30);
    }

    private int basket() {
        int dice = random.nextInt(30);
        if (dice == 0) return odd();
        if (dice == 1) return random.nextInt(1 << 17);
        int set = 0;
        int many = 1 + random.nextInt(dice < 4 ? 8 : 6);
        int bound = Math.max(kind == 3 ? Math.min(3, goods) : goods, 1);
        for (int i = 0; i < many; i++) {
            set |= 1 << random.nextInt(bound);
        }
        return set;
    }

    private boolean setting() {
        int setting = kind == 4 ? 1 : small(3);
        if (random.nextInt(6) == 0) return same("set", setting, odd(), 0);
        if (setting == 0) return same("set", 0, random.nextInt(11), 0);
        if (setting == 1) return same("set", 1, random.nextInt(3) == 0 ? 1 : random.nextInt(kind == 4 ? 4 : 102), 0);
        return same("set", setting, random.nextInt(11), 0);
    }

    private boolean puts() {
        int dice = random.nextInt(20);
        if (dice == 0) return samePut(random.nextLong());
        if (dice == 1) return samePut(random.nextLong() >>> random.nextInt(64));
        int many = 1 + random.nextInt(kind == 5 ? 8 : 3);
        for (int i = 0; i < many; i++) {
            if (text.isEmpty()) {
                text = (model.count(14) == 0 ? "" : ";") + orders();
            }
            int length = Math.min(text.length(), 1 + random.nextInt(8));
            if (!samePut(packed(text.substring(0, length)))) return false;
            text = text.substring(length);
        }
        if (random.nextInt(3) > 0) {
            boolean good = text.isEmpty() || samePut(packed(text.substring(0, Math.min(8, text.length()))));
            text = "";
            return good && same("fault", 0, 0, 0) && same("carryOut", 0, 0, 0) && same("count", 14, 0, 0);
        }
        return same("fault", 0, 0, 0);
    }

    private String orders() {
        StringBuilder out = new StringBuilder(order());
        int more = random.nextInt(5);
        for (int i = 0; i < more; i++) {
            out.append(random.nextInt(40) == 0 ? "," : ";").append(order());
        }
        if (random.nextInt(6) == 0) {
            out.insert(random.nextInt(out.length()), (char) (33 + random.nextInt(94)));
        }
        return out.toString();
    }

    private String order() {
        switch (random.nextInt(6)) {
            case 0: return "g" + number(30);
            case 1: return "m" + number(30) + (random.nextInt(15) == 0 ? ";" : "-") + number(30);
            case 2: return "x" + number(30);
            case 3: return "n";
            default:
                StringBuilder out = new StringBuilder("b" + number(Math.max(goods, 1)));
                while (random.nextInt(3) > 0) {
                    out.append(",").append(number(Math.max(goods, 1)));
                }
                return out.toString();
        }
    }

    private String number(int bound) {
        int dice = random.nextInt(60);
        return dice == 0 ? "0" + random.nextInt(10) : dice == 1 ? "" + random.nextInt(200) : "" + random.nextInt(bound);
    }

    private static long packed(String told) {
        long out = 0;
        for (char sign : told.toCharArray()) {
            out = out << 8 | sign;
        }
        return out;
    }

    private boolean samePut(long characters) {
        int due = model.put(characters);
        int got = real.put(characters);
        if (got != due) {
            System.out.println("run " + run + ": put(" + characters + ") answered " + got + ", due is " + due);
        }
        return got == due && sameState();
    }

    private boolean same(String call, int a, int b, int c) {
        long due = ofModel(call, a, b, c);
        long got = ofReal(call, a, b, c);
        if (got != due) {
            System.out.println("run " + run + ": " + call + "(" + a + ", " + b + ", " + c + ") answered " + got + ", due is " + due);
        }
        return got == due && sameState();
    }

    /** Now and then all that can be asked, so that no call changes what it should leave. */
    private boolean sameState() {
        if (random.nextInt(40) != 0) return true;
        boolean good = real.meanSpeed() == model.meanSpeed() && real.badly() == model.badly() && real.fault() == model.fault();
        for (int what = 0; what < 16; what++) {
            good &= real.count(what) == model.count(what);
        }
        for (int slot = 0; slot < 30; slot++) {
            good &= real.ofSlot(slot, 0) == model.ofSlot(slot, 0) && real.ofSlot(slot, 2) == model.ofSlot(slot, 2);
        }
        for (int i = 0; i < 16 * 6; i++) {
            good &= real.of(i / 6, i % 6) == model.of(i / 6, i % 6);
        }
        for (int i = 0; i < 2 * 12 * 3; i++) {
            good &= real.basket(i / 36, i / 3 % 12, i % 3) == model.basket(i / 36, i / 3 % 12, i % 3);
        }
        if (!good) System.out.println("run " + run + ": the states are not the same");
        return good;
    }

    private long ofModel(String call, int a, int b, int c) {
        switch (call) {
            case "set": return model.set(a, b);
            case "good": return model.good(a);
            case "swap": return model.swap(a, b);
            case "close": return model.close(a);
            case "pick": return model.pick(a);
            case "night": return model.night();
            case "of": return model.of(a, b);
            case "ofSlot": return model.ofSlot(a, b);
            case "steps": return model.steps(a, b);
            case "basket": return model.basket(a, b, c);
            case "often": return model.often(a);
            case "count": return model.count(a);
            case "meanSpeed": return model.meanSpeed();
            case "walk": return model.walk(a);
            case "stop": return model.stop(a, b);
            case "shortest": return model.shortest(a);
            case "bestSwap": return model.bestSwap(a);
            case "ifSwapped": return model.ifSwapped(a, b);
            case "badly": return model.badly();
            case "wipe": return model.wipe();
            case "fault": return model.fault();
            case "carryOut": return model.carryOut();
            case "undo": return model.undo();
            case "save": return model.save(a);
            default: return model.restore(a);
        }
    }

    private long ofReal(String call, int a, int b, int c) {
        switch (call) {
            case "set": return real.set(a, b);
            case "good": return real.good(a);
            case "swap": return real.swap(a, b);
            case "close": return real.close(a);
            case "pick": return real.pick(a);
            case "night": return real.night();
            case "of": return real.of(a, b);
            case "ofSlot": return real.ofSlot(a, b);
            case "steps": return real.steps(a, b);
            case "basket": return real.basket(a, b, c);
            case "often": return real.often(a);
            case "count": return real.count(a);
            case "meanSpeed": return real.meanSpeed();
            case "walk": return real.walk(a);
            case "stop": return real.stop(a, b);
            case "shortest": return real.shortest(a);
            case "bestSwap": return real.bestSwap(a);
            case "ifSwapped": return real.ifSwapped(a, b);
            case "badly": return real.badly();
            case "wipe": return real.wipe();
            case "fault": return real.fault();
            case "carryOut": return real.carryOut();
            case "undo": return real.undo();
            case "save": return real.save(a);
            default: return real.restore(a);
        }
    }
}
