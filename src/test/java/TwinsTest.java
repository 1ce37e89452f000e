import java.util.ArrayList;
import java.util.Arrays;
import java.util.List;

/**
 * Two sheds get the same calls, but one of them gets more: refused ones, ones that only ask, or a change that is undone.
 * All that can be asked, at once and behind further calls, has to be the same of both.
 */
public final class TwinsTest {
    private static final String[] EMPTY = {};
    // Full history, both slots saved, a good text on the pad, a closed slot, baskets of two days.
    private static final String[] BUSY = {"goods 29 0 13 2 20", "close 4", "set 1 40", "set 2 5", "pick 3", "pick 5", "night",
        "save 0", "pick 1", "pick 9", "swap 0 7", "save 1", "pick 3", "close 29", "write g5;b0,1;n"};
    // 16 goods, 12 baskets today and yesterday, 80 characters, one saved slot.
    private static final String[] FULL = {"goods 0 1 2 3 4 5 6 7 8 9 10 11 12 13 14 15", "save 1", "12 times pick 63", "night",
        "11 times pick 32769", "pick 64", "write " + "g1;".repeat(26) + "g7"};
    private static final String[] FAULTY = {"good 3", "pick 1", "write g5;m1;n"};
    private static final String[][] SHEDS = {EMPTY, BUSY, FULL, FAULTY};
    private static final String[][] BEHIND = {{}, {"undo"}, {"undo", "undo", "undo", "undo", "undo", "undo", "undo"},
        {"restore 0"}, {"restore 1"}, {"carryOut"}, {"night"}, {"wipe", "write n;n", "carryOut"},
        {"good 16", "pick 1", "set 0 9", "night", "night"}, {"night", "undo", "save 0", "restore 0"}};
    private static int wrong = 0;
    private static int pairs = 0;

    public static void main(String[] args) {
        refusedAnywhere();
        refusedInTheEmptyShed();
        refusedInTheBusyShed();
        refusedInTheFullShed();
        refusedInTheFaultyShed();
        onlyAsked();
        undone();
        restored();
        otherObjects();
        System.out.println(wrong == 0 ? "all " + pairs + " pairs are the same" : wrong + " pairs are not the same");
        if (wrong != 0) {
            System.exit(1);
        }
    }

    private static void refusedAnywhere() {
        String[] noSuch = {"good -1", "good 30", "good LOW", "good HIGH", "swap -1 0", "swap 0 -1", "swap 30 0", "swap 0 30",
            "swap 30 30", "close -1", "close 30", "close 31", "close 32", "close LOW", "close HIGH", "pick 2^16", "pick 2^31",
            "pick -1", "pick HIGH", "of -1 0", "of 16 0", "ofSlot -1 0", "ofSlot 30 0", "steps 30 0", "steps 0 -1",
            "basket -1 0 0", "basket 2 0 0", "basket 0 12 0", "basket 1 -1 0", "often 2^16", "walk 2^16", "stop 2^16 0",
            "shortest -1", "ifSwapped 30 0", "ifSwapped 0 -1"};
        String[] badValue = {"set -1 3", "set 3 3", "set 0 -1", "set 0 10", "set 1 -1", "set 1 101", "set 2 0", "set 2 10",
            "set LOW LOW", "set HIGH HIGH", "swap 0 0", "swap 29 29", "pick 0", "ofSlot 0 -1", "ofSlot 0 3", "often 0",
            "count -1", "count 16", "walk 0", "stop 0 0", "shortest 0", "bestSwap -1", "bestSwap 2", "put 0", "put 32", "put 127",
            "put 0x206E", "put 0x6E20", "put 0x6E006E", "put 0x800000000000006E", "put -1", "save -1", "save 2", "save LOW",
            "save HIGH", "restore -1", "restore 2", "restore LOW"};
        for (String[] shed : SHEDS) {
            refused(shed, "NO_SUCH", noSuch);
            refused(shed, "BAD_VALUE", badValue);
        }
    }

    private static void refusedInTheEmptyShed() {
        refused(EMPTY, "NO_SUCH", "pick 1", "of 0 0", "basket 0 0 0", "basket 1 0 0", "often 1", "walk 1", "stop 1 0",
            "shortest 1");
        refused(EMPTY, "BAD_TEXT", "carryOut");
        refused(EMPTY, "NOT_POSSIBLE", "undo", "restore 0", "restore 1");
    }

    private static void refusedInTheBusyShed() {
        refused(BUSY, "NOT_POSSIBLE", "good 13", "good 2");
        refused(BUSY, "NO_SUCH", "pick 32", "pick 33", "pick 63", "of 5 0", "basket 0 3 0", "basket 1 2 0", "often 32", "walk 63",
            "stop 32 0", "shortest 63");
        refused(BUSY, "BAD_VALUE", "of 0 6", "of 4 -1", "basket 0 2 3", "basket 1 1 -1");
    }

    private static void refusedInTheFullShed() {
        refused(FULL, "TOO_MANY", "good 16", "good 29", "pick 1", "pick 63", "put 0x6E", "put 0x6E6E6E6E6E6E6E6E");
        refused(FULL, "NOT_POSSIBLE", "good 0", "good 15", "restore 0");
        refused(FULL, "BAD_VALUE", "pick 127", "pick 65535", "often 127", "walk 127", "stop 127 0", "shortest 127", "of 15 6");
        refused(FULL, "NO_SUCH", "basket 0 12 0", "basket 1 12 0");
    }

    private static void refusedInTheFaultyShed() {
        refused(FAULTY, "BAD_TEXT", "carryOut");
        refused(FAULTY, "NOT_POSSIBLE", "good 3", "restore 0", "restore 1");
        refused(new String[] {"good 3", "wipe"}, "BAD_TEXT", "carryOut");
        refused(new String[] {"good 3", "undo"}, "NOT_POSSIBLE", "undo");
        refused(new String[] {"7 times close 3", "6 times undo"}, "NOT_POSSIBLE", "undo");
        refused(new String[] {"9 times put 0x6E6E6E6E6E6E6E6E", "write ;n;n;n;"}, "TOO_MANY", "put 0x6E6E");
    }

    private static void refused(String[] shed, String due, String... calls) {
        for (String call : calls) {
            String[] more = {call + " = " + due};
            same(call + " is refused", shed, with(shed, more));
        }
        String[] all = new String[calls.length];
        for (int index = 0; index < all.length; index++) {
            all[index] = calls[index] + " = " + due;
        }
        same("all are refused: " + due, shed, with(shed, all));
    }

    private static void onlyAsked() {
        String[] calls = {"of 0 0", "of 0 1", "of 0 5", "ofSlot 0 0", "ofSlot 29 2", "steps 0 29", "basket 0 0 0", "basket 0 0 2",
            "basket 1 0 2", "often 1", "count 3", "count 7", "count 9", "count 10", "meanSpeed", "walk 1", "walk 3", "stop 3 0",
            "stop 3 1", "stop 3 9", "stop 3 -1", "shortest 1", "shortest 3", "bestSwap 0", "bestSwap 1", "ifSwapped 0 29",
            "ifSwapped 29 2", "ifSwapped 3 3", "badly", "fault"};
        for (String[] shed : SHEDS) {
            for (String call : calls) {
                same(call + " only asks", shed, with(shed, call));
            }
            same("all only ask", shed, with(shed, calls));
        }
        // save() leaves all but the slot in which it saves.
        same("save 0 leaves the rest", with(BUSY, "save 1"), with(BUSY, "save 1", "save 1"));
        sameButHistory("an overwritten slot", with(BUSY, "save 0"), with(BUSY, "save 0", "night", "save 0", "undo", "save 0"));
    }

    /** The history is one state shorter behind a change that is undone, if it was full; the pad stays emptied. */
    private static void undone() {
        String[] changes = {"set 0 9", "set 1 0", "set 2 1", "set 0 2", "good 16", "good 28", "swap 0 29", "swap 13 2",
            "swap 27 28", "close 0", "close 4", "close 29", "pick 1", "pick 2", "pick 9", "night", "restore 0", "restore 1"};
        for (String[] shed : SHEDS) {
            for (String change : changes) {
                if (isTaken(shed, change)) {
                    sameButHistory(change + " is undone", shed, with(shed, change, "undo"));
                    String[] later = {change, "night", "undo", "night", "undo", "undo"};
                    sameButHistory(change + " is undone behind others", shed, with(shed, later));
                }
            }
            if (isTaken(shed, "carryOut")) {
                sameButHistory("carryOut is undone", with(shed, "wipe"), with(shed, "carryOut", "undo"));
            }
        }
    }

    private static boolean isTaken(String[] shed, String change) {
        Calls calls = new Calls(new ShelfSlots());
        calls.wrong(shed);
        return calls.answers(change).get(0) >= 0;
    }

    private static void restored() {
        String[] later = {"set 0 9", "set 1 0", "set 2 1", "good 28", "swap 0 29", "close 0", "pick 1", "night", "pick 1",
            "night"};
        for (String[] shed : SHEDS) {
            for (String slot : new String[] {"0", "1"}) {
                String[] saved = with(shed, "save " + slot);
                String[] once = with(with(saved, later), "restore " + slot);
                sameButHistory("restored from " + slot, saved, once);
                sameButHistory("restored twice from " + slot, saved, with(with(once, later), "restore " + slot));
            }
        }
    }

    /** What one object does is nothing to another one. */
    private static void otherObjects() {
        for (String[] shed : SHEDS) {
            List<String> alone = seen(shed, EMPTY, true);
            Calls one = new Calls(new ShelfSlots());
            Calls other = new Calls(new ShelfSlots());
            for (String row : shed) {
                one.wrong(row);
                other.wrong("set 2 7", "good 5", "pick 1", "night", "save 0", "put 0x6E", "undo", "close 3");
            }
            pairs++;
            tell("another object", alone, look(one, true));
        }
    }

    private static void same(String what, String[] plain, String[] more) {
        compare(what, plain, more, true);
    }

    private static void sameButHistory(String what, String[] plain, String[] more) {
        compare(what, plain, more, false);
    }

    /** Builds both anew for each row of calls behind, as an object is used for 512 calls alone. */
    private static void compare(String what, String[] plain, String[] more, boolean withHistory) {
        pairs++;
        for (String[] behind : BEHIND) {
            if (withHistory || !Arrays.asList(behind).contains("undo")) {
                List<String> without = seen(plain, behind, withHistory);
                tell(what + ", then " + Arrays.toString(behind), without, seen(more, behind, withHistory));
            }
        }
    }

    private static void tell(String what, List<String> plain, List<String> more) {
        for (int index = 0; index < plain.size(); index++) {
            if (!plain.get(index).equals(more.get(index))) {
                wrong++;
                System.out.println(what + ": " + plain.get(index) + " without it, " + more.get(index) + " with it");
                return;
            }
        }
    }

    private static List<String> seen(String[] rows, String[] behind, boolean withHistory) {
        Calls calls = new Calls(new ShelfSlots());
        List<String> out = new ArrayList<>(calls.wrong(rows));
        for (String call : behind) {
            out.add(call + " = " + calls.answers(call).get(0));
        }
        out.addAll(look(calls, withHistory));
        return out;
    }

    private static List<String> look(Calls calls, boolean withHistory) {
        List<String> asked = new ArrayList<>(List.of("meanSpeed", "badly", "fault", "walk 1", "walk 3", "often 1", "often 3",
            "often 63", "shortest 3", "stop 3 0", "bestSwap 0", "bestSwap 1", "ifSwapped 0 29", "steps 5 6"));
        for (int what = 0; what < (withHistory ? 16 : 15); what++) {
            asked.add("count " + what);
        }
        for (int index = 0; index < 16 * 6; index++) {
            asked.add("of " + index / 6 + " " + index % 6);
        }
        for (int index = 0; index < 30; index++) {
            asked.add("ofSlot " + index + " 0");
            asked.add("ofSlot " + index + " 2");
        }
        for (int index = 0; index < 2 * 12 * 3; index++) {
            asked.add("basket " + index / 36 + " " + index / 3 % 12 + " " + index % 3);
        }
        List<String> out = new ArrayList<>();
        for (String call : asked) {
            out.add(call + " = " + calls.answers(call).get(0));
        }
        return out;
    }

    private static String[] with(String[] rows, String... more) {
        String[] out = Arrays.copyOf(rows, rows.length + more.length);
        System.arraycopy(more, 0, out, rows.length, more.length);
        return out;
    }
}
