/**
 * Each sentence of the document that names an edge: the last value that is taken and the first that is refused on each
 * side, empty and full, what wraps around. Each row is a call with its due answer, worked out by hand; the plain model
 * is asked too, so that no row is due by a slip. TwinsTest tells what refused calls leave as it is.
 */
public final class EdgesTest {
    private static int wrong = 0;
    private static int edges = 0;
    private static int promise = 0;

    public static void main(String[] args) {
        newObject();
        settings();
        goods();
        swaps();
        closedSlots();
        picks();
        speedsOfNights();
        movesOfNights();
        longerWalksOfNights();
        weightsOfNights();
        slotsOfNights();
        endsOfNights();
        aboutGoods();
        aboutSlots();
        steps();
        baskets();
        often();
        counts();
        means();
        walks();
        stops();
        shortest();
        bestSwaps();
        ifSwapped();
        badly();
        puts();
        wipes();
        faults();
        faultsOfNumbers();
        carryOut();
        undo();
        saves();
        restores();
        System.out.println(wrong == 0 ? "all " + edges + " edges hold" : wrong + " answers are not as due");
        if (wrong != 0) {
            System.exit(1);
        }
    }

    private static void edge(String sentence, String... rows) {
        edges++;
        for (String one : Calls.wrongOfBoth(rows)) {
            wrong++;
            System.out.println("promise " + promise + ", " + sentence + ": " + one);
        }
    }

    private static void newObject() {
        promise = 1;
        edge("nothing is counted at first", "count 0 = 0", "count 1 = 0", "count 2 = 0", "count 3 = 0", "count 4 = 0",
            "count 5 = 0", "count 6 = 0", "count 7 = 0", "count 8 = 0", "count 10 = 0", "count 14 = 0", "count 15 = 0");
        edge("the first values of the settings", "count 11 = 2", "count 12 = 75", "count 13 = 3");
        edge("no goods at first", "count 9 = NONE", "of 0 0 = NO_SUCH", "of 15 0 = NO_SUCH", "ofSlot 0 0 = NONE",
            "ofSlot 29 0 = NONE");
        edge("no slot is closed at first", "ofSlot 0 2 = 0", "ofSlot 29 2 = 0", "close 0 = 1", "close 29 = 1");
        edge("no baskets at first", "basket 0 0 0 = NO_SUCH", "basket 1 0 0 = NO_SUCH");
        edge("nothing to undo, nothing saved", "undo = NOT_POSSIBLE", "restore 0 = NOT_POSSIBLE", "restore 1 = NOT_POSSIBLE");
        edge("an empty pad at first", "wipe = 0", "fault = 0", "carryOut = BAD_TEXT");
        edge("what an empty shed answers", "walk 1 = NO_SUCH", "walk 0 = BAD_VALUE", "stop 0 0 = BAD_VALUE",
            "shortest 0 = BAD_VALUE", "often 0 = BAD_VALUE", "meanSpeed = 0", "badly = 0", "bestSwap 0 = NONE",
            "bestSwap 1 = NONE", "ifSwapped 0 29 = 0", "steps 0 29 = 17");
        edge("what can be done in an empty shed", "swap 0 29 = 0", "night = 0", "save 0 = 0", "close 0 = 1", "pick 0 = BAD_VALUE",
            "pick 1 = NO_SUCH", "undo = 2", "undo = 1", "undo = 0", "undo = NOT_POSSIBLE", "restore 0 = 0");
    }

    private static void settings() {
        promise = 2;
        edge("there are settings 0 to 2", "set 0 2 = 2", "set 2 3 = 3", "set 3 3 = BAD_VALUE", "set -1 3 = BAD_VALUE",
            "set HIGH 3 = BAD_VALUE", "set LOW 3 = BAD_VALUE", "count 15 = 2");
        edge("MOVES is 0 to 9", "set 0 -1 = BAD_VALUE", "set 0 0 = 2", "set 0 9 = 0", "set 0 10 = BAD_VALUE", "count 11 = 9",
            "set 0 LOW = BAD_VALUE", "set 0 HIGH = BAD_VALUE", "set 0 0 = 9", "set 0 -1 = BAD_VALUE", "count 11 = 0");
        edge("FORGET is 0 to 100", "set 1 -1 = BAD_VALUE", "set 1 0 = 75", "set 1 100 = 0", "set 1 101 = BAD_VALUE",
            "count 12 = 100", "set 1 LOW = BAD_VALUE", "set 1 HIGH = BAD_VALUE", "set 1 0 = 100", "set 1 -1 = BAD_VALUE",
            "count 12 = 0");
        edge("CROSS is 1 to 9", "set 2 0 = BAD_VALUE", "set 2 1 = 3", "set 2 9 = 1", "set 2 10 = BAD_VALUE", "count 13 = 9",
            "set 2 LOW = BAD_VALUE", "set 2 HIGH = BAD_VALUE", "set 2 1 = 9", "set 2 0 = BAD_VALUE", "set 2 -1 = BAD_VALUE",
            "count 13 = 1");
        edge("the ranges are the settings' own", "set 0 9 = 2", "set 1 10 = 75", "set 2 9 = 3", "set 1 0 = 10",
            "set 0 100 = BAD_VALUE", "set 2 100 = BAD_VALUE", "count 11 = 9", "count 12 = 0", "count 13 = 9");
        edge("the same value is a change too", "set 0 2 = 2", "count 15 = 1", "undo = 0", "count 11 = 2");
        edge("a change of one setting leaves the others", "set 0 5 = 2", "count 12 = 75", "count 13 = 3", "set 1 5 = 75",
            "count 11 = 5", "count 13 = 3", "set 2 5 = 3", "count 11 = 5", "count 12 = 5");
    }

    private static void goods() {
        promise = 3;
        edge("slots are 0 to 29", "good -1 = NO_SUCH", "good 30 = NO_SUCH", "good LOW = NO_SUCH", "good HIGH = NO_SUCH",
            "count 1 = 0", "good 0 = 0", "good 29 = 1", "of 0 0 = 0", "of 1 0 = 29", "count 15 = 2");
        edge("a slot holds one good", "good 7 = 0", "good 7 = NOT_POSSIBLE", "ofSlot 7 0 = 0", "count 1 = 1", "good 6 = 1",
            "good 8 = 2");
        edge("a slot that has become empty takes one", "good 7 = 0", "swap 7 8 = 1", "good 8 = NOT_POSSIBLE", "good 7 = 1",
            "ofSlot 8 0 = 0", "undo = 2", "ofSlot 7 0 = NONE", "good 7 = 1");
        edge("16 goods, and no more", "goods 0 1 2 3 4 5 6 7 8 9 10 11 12 13 14", "count 1 = 15", "good 29 = 15", "count 1 = 16",
            "good 28 = TOO_MANY", "ofSlot 28 0 = NONE", "count 1 = 16", "of 15 0 = 29", "of 16 0 = NO_SUCH");
        edge("the errors' order in a full shed", "goods 0 1 2 3 4 5 6 7 8 9 10 11 12 13 14 29", "good 30 = NO_SUCH",
            "good -1 = NO_SUCH", "good 29 = NOT_POSSIBLE", "good 0 = NOT_POSSIBLE", "good 15 = TOO_MANY");
        edge("the last good is taken back, and another one comes", "goods 0 1 2 3 4 5 6 7 8 9 10 11 12 13 14 29", "undo = 5",
            "good 28 = 15", "good 29 = TOO_MANY");
        edge("numbered in the order in which they came", "good 29 = 0", "good 0 = 1", "good 15 = 2", "ofSlot 15 0 = 2");
        edge("nothing is known of a good that comes", "good 3 = 0", "of 0 1 = 0", "of 0 2 = 0", "of 0 3 = 0", "of 0 5 = 0");
        edge("a good that comes in the place of an undone one", "good 3 = 0", "pick 1 = 8", "swap 3 4 = 1", "night = 1",
            "undo = 3", "undo = 2", "undo = 1", "undo = 0", "good 5 = 0", "of 0 0 = 5", "of 0 1 = 0", "of 0 2 = 0", "of 0 3 = 0",
            "of 0 5 = 0");
        edge("a closed slot takes a good", "close 3 = 1", "good 3 = 0", "ofSlot 3 2 = 1");
    }

    private static void swaps() {
        promise = 4;
        edge("slots are 0 to 29, each of both", "goods 0 29", "swap -1 0 = NO_SUCH", "swap 0 -1 = NO_SUCH", "swap 30 0 = NO_SUCH",
            "swap 0 30 = NO_SUCH", "swap LOW 0 = NO_SUCH", "swap 0 LOW = NO_SUCH", "swap HIGH 0 = NO_SUCH",
            "swap 0 HIGH = NO_SUCH", "of 0 0 = 0", "of 0 5 = 0", "count 15 = 2", "swap 0 29 = 2", "of 0 0 = 29", "of 1 0 = 0",
            "swap 0 29 = 2", "of 0 0 = 0");
        edge("no slot comes before both are the same", "swap -1 -1 = NO_SUCH", "swap 30 30 = NO_SUCH", "swap LOW LOW = NO_SUCH");
        edge("both are the same", "good 0", "swap 0 0 = BAD_VALUE", "swap 29 29 = BAD_VALUE", "swap 0 1 = 1", "of 0 5 = 1",
            "count 15 = 2");
        edge("two goods, one or none", "goods 4 9", "swap 4 9 = 2", "swap 4 5 = 1", "swap 9 10 = 1", "swap 1 2 = 0", "of 0 5 = 2",
            "of 1 5 = 2", "of 0 0 = 10", "of 1 0 = 5");
        edge("the good that goes is in the other slot", "goods 4 9", "swap 9 29 = 1", "ofSlot 9 0 = NONE", "ofSlot 29 0 = 1",
            "swap 9 29 = 1", "ofSlot 29 0 = NONE", "ofSlot 9 0 = 1");
        edge("closed or not", "goods 4 9", "close 4 = 1", "swap 4 9 = 2", "close 9 = 1", "swap 4 9 = 2", "close 4 = 0",
            "swap 4 9 = 2", "ofSlot 4 2 = 0", "ofSlot 9 2 = 1", "of 0 5 = 3");
        edge("two empty slots are a change too", "swap 0 1 = 0", "count 15 = 1");
        edge("swaps by hand are none by night", "goods 4 9", "swap 4 9 = 2", "count 6 = 0");
        edge("no good moves but those two", "goods 0 1 2", "swap 0 2 = 2", "of 1 0 = 1", "of 1 5 = 0");
    }

    private static void closedSlots() {
        promise = 5;
        edge("slots are 0 to 29", "close -1 = NO_SUCH", "close 30 = NO_SUCH", "close 31 = NO_SUCH", "close 32 = NO_SUCH",
            "close LOW = NO_SUCH", "close HIGH = NO_SUCH", "count 8 = 0", "count 15 = 0", "close 0 = 1", "close 29 = 1",
            "count 8 = 536870913");
        edge("closed, opened, closed", "close 29 = 1", "ofSlot 29 2 = 1", "close 29 = 0", "ofSlot 29 2 = 0", "close 29 = 1",
            "count 8 = 2^29");
        edge("one slot leaves the others", "close 5 = 1", "close 6 = 1", "close 5 = 0", "count 8 = 64");
        edge("all slots", "shut but", "count 8 = 1073741823", "close 0 = 0", "close 29 = 0", "count 8 = 536870910");
        edge("a closed slot keeps its good, which can be picked", "good 29", "close 29 = 1", "ofSlot 29 0 = 0", "pick 1 = 36",
            "of 0 2 = 1");
        edge("a closed slot that had the good that was swapped stays closed", "good 3", "close 3 = 1", "swap 3 4 = 1",
            "count 8 = 8");
    }

    private static void picks() {
        promise = 6;
        edge("a set of 1 to 6 goods", "goods 0 1 2 3 4 5 6 7", "pick 0 = BAD_VALUE", "pick 1 = 2", "pick 63 = 12",
            "pick 127 = BAD_VALUE", "pick 255 = BAD_VALUE", "count 2 = 2", "of 0 2 = 2", "of 6 2 = 0");
        edge("no goods at all", "pick 1 = NO_SUCH", "pick 0 = BAD_VALUE", "pick -1 = NO_SUCH", "pick HIGH = NO_SUCH");
        edge("a good that is not there", "good 0", "pick 2 = NO_SUCH", "pick 3 = NO_SUCH", "pick 1 = 2", "good 1", "pick 2 = 4",
            "pick 4 = NO_SUCH");
        edge("the last good, and bits above all goods", "goods 0 1 2 3 4 5 6 7 8 9 10 11 12 13 14 15", "pick 2^15 = 20",
            "pick 2^16 = NO_SUCH", "pick 2^30 = NO_SUCH", "pick 2^31 = NO_SUCH", "pick 65537 = NO_SUCH", "pick HIGH = NO_SUCH",
            "pick -1 = NO_SUCH", "pick -32768 = NO_SUCH", "pick 64512 = 30", "pick 65535 = BAD_VALUE", "count 2 = 2");
        edge("a good that is not there comes before too many goods", "goods 0 1 2 3 4 5 6", "pick 255 = NO_SUCH",
            "pick 127 = BAD_VALUE");
        edge("12 in a day", "good 0", "12 times pick 1 = 2", "pick 1 = TOO_MANY", "count 2 = 12", "count 3 = 24", "of 0 2 = 12",
            "of 0 3 = 12", "often 1 = 12", "pick 0 = BAD_VALUE", "pick 2 = NO_SUCH");
        edge("12 in the next day, too", "good 0", "12 times pick 1 = 2", "night = 0", "12 times pick 1 = 2", "pick 1 = TOO_MANY",
            "count 2 = 12", "of 0 2 = 12", "of 0 3 = 24", "count 5 = 48");
        edge("one of 12 is undone", "good 0", "12 times pick 1 = 2", "undo = 5", "count 2 = 11", "pick 1 = 2",
            "pick 1 = TOO_MANY");
        edge("12 of a saved day", "good 0", "11 times pick 1 = 2", "save 0 = 1", "pick 1 = 2", "restore 0 = 1", "pick 1 = 2",
            "pick 1 = TOO_MANY");
        edge("the nearest and the furthest slot", "goods 0 29", "pick 1 = 2", "pick 2 = 36", "set 2 1", "pick 2 = 20", "set 2 9",
            "pick 2 = 84", "pick 1 = 2");
        edge("a walk is as long as the goods stood then", "good 0", "pick 1 = 2", "swap 0 29 = 1", "pick 1 = 36", "count 3 = 38",
            "set 2 1", "count 3 = 38", "basket 0 0 1 = 2", "basket 0 1 1 = 36");
        edge("each good is picked once more", "goods 0 1 2 3 4 5 6", "pick 63 = 12", "pick 33 = 12", "of 0 2 = 2", "of 1 2 = 1",
            "of 5 2 = 2", "of 6 2 = 0", "of 5 3 = 2");
    }

    private static void speedsOfNights() {
        promise = 7;
        edge("FORGET 0: nothing stays", "good 0", "set 1 0", "pick 1", "night = 0", "of 0 1 = f1.0", "night = 0", "of 0 1 = 0");
        edge("FORGET 100: all stays, and nothing comes", "good 0", "set 1 0", "pick 1", "night = 0", "set 1 100", "pick 1",
            "pick 1", "night = 0", "of 0 1 = f1.0", "night = 0", "of 0 1 = f1.0");
        edge("FORGET 75 at first", "good 0", "pick 1", "pick 1", "night = 0", "of 0 1 = f0.5", "night = 0", "of 0 1 = f0.375");
        edge("picked most often", "good 0", "set 1 0", "12 times pick 1 = 2", "night = 0", "of 0 1 = f12.0", "count 7 = f12.0");
        edge("not picked at all", "goods 0 1", "pick 1", "night = 0", "of 1 1 = 0", "count 7 = f0.25");
        edge("every good, the last one too", "goods 0 1 2 3 4 5 6 7 8 9 10 11 12 13 14 15", "set 0 0", "set 1 0", "pick 2^15",
            "pick 1", "night = 0", "of 15 1 = f1.0", "of 14 1 = 0", "of 0 1 = f1.0");
        // Each night leaves a hundredth: below 2^-126 a float holds fewer digits, below 2^-149 nothing but 0.
        edge("a speed that gets too small", "good 0", "set 1 1", "pick 1", "night = 0", "of 0 1 = f0.99", "20 times night = 0",
            "of 0 1 = f9.9E-41", "night = 0", "of 0 1 = f9.89E-43", "night = 0", "of 0 1 = f9.8E-45", "night = 0", "of 0 1 = 0",
            "night = 0", "of 0 1 = 0");
    }

    private static void movesOfNights() {
        promise = 7;
        String tenGoods = "goods 20 21 22 23 24 25 26 27 28 29";
        // Ten goods of the speed 1, which stays; each swap brings one of them to its place.
        edge("MOVES 9: nine swaps at most", tenGoods, "set 0 0", "set 1 0", "pick 63", "pick 960", "night = 0", "set 1 100",
            "set 0 9", "night = 9", "count 6 = 9", "night = 1", "count 6 = 10", "night = 0", "count 6 = 10", "count 7 = f43.0");
        edge("MOVES 1: one", tenGoods, "set 0 1", "pick 63", "pick 960", "night = 1", "count 6 = 1", "of 9 0 = 0", "of 9 5 = 1",
            "of 8 5 = 0");
        edge("MOVES 2 at first", tenGoods, "pick 63", "pick 960", "night = 2", "count 6 = 2");
        edge("MOVES 0: none", tenGoods, "set 0 0", "pick 63", "pick 960", "night = 0", "count 6 = 0", "of 9 0 = 29");
        edge("fewer than MOVES, when there are no more", "good 29", "set 0 9", "pick 1", "night = 1", "of 0 0 = 0", "of 0 5 = 1");
        edge("the speeds change before the moves", "goods 29 28", "set 0 1", "set 1 0", "pick 1", "night = 1", "of 0 0 = 0",
            "swap 0 29 = 1", "pick 2", "night = 1", "of 1 0 = 0", "of 0 0 = 29");
        edge("goods that are not fast stay", "goods 29", "night = 0", "of 0 0 = 29");
    }

    private static void longerWalksOfNights() {
        promise = 7;
        // With CROSS 1, slots 7, 8 and 2 are 3, 4 and 3 steps away: both goods in one aisle are 8, in two 10.
        String pairOfAisle = "goods 7 8";
        edge("not longer: 2 steps more are too many", pairOfAisle, "shut but 2 7 8", "set 2 1", "set 1 0", "pick 3 = 8",
            "bestSwap 0 = NONE", "ifSwapped 2 8 = 10", "night = 0", "set 1 100", "night = 1", "of 1 0 = 2", "of 0 0 = 7");
        edge("not longer: as long is fine", pairOfAisle, "shut but 2 7 8", "set 2 1", "set 1 0", "pick 3 = 8", "pick 2 = 8",
            "ifSwapped 2 8 = 16", "ifSwapped 2 2 = 16", "bestSwap 0 = 2", "bestSwap 1 = 8", "night = 1", "of 1 0 = 2");
        edge("not longer than now, not than when it was picked", pairOfAisle, "set 2 1", "set 1 0", "swap 8 29 = 1",
            "pick 3 = 22", "swap 8 29 = 1", "shut but 2 7 8", "night = 0", "of 1 0 = 8");
        edge("walked anew, though it was shorter when it was picked", "good 0", "pick 1 = 2", "swap 0 29 = 1", "shut but 17 29",
            "night = 1", "of 0 0 = 17");
        // Good 2 moves first, to slot 0, and shortens its walks; good 1 would lengthen the walk that is now.
        edge("not longer than with the goods as they stand by then", "goods 7 8 29", "shut but 0 2 7 8 29", "set 2 1", "set 1 0",
            "pick 3 = 8", "3 times pick 4 = 20", "night = 1", "of 2 0 = 0", "of 1 0 = 8", "count 6 = 1");
    }

    private static void weightsOfNights() {
        promise = 7;
        edge("the weight has to become less: goods as fast", "goods 0 1", "shut but 0 1", "pick 3", "night = 0", "of 0 0 = 0");
        edge("the weight has to become less: slots as far", "good 6", "shut but 3 6", "pick 1", "bestSwap 0 = NONE", "night = 0",
            "of 0 0 = 6");
        edge("the weight has to become less: a little will do", "good 5", "shut but 4 5", "set 1 99", "pick 1", "night = 1",
            "of 0 0 = 4");
        edge("the weight adds all goods", "goods 0 29", "set 0 0", "set 1 0", "pick 3", "pick 2", "night = 0", "count 7 = f37.0");
        edge("the least weight comes before the lowest slot", "goods 29 2", "shut but 0 2 29", "set 0 1", "pick 1", "night = 1",
            "of 0 0 = 0", "of 1 0 = 2");
    }

    private static void slotsOfNights() {
        promise = 7;
        edge("the lower slot is closed", "goods 29", "shut but 1 29", "pick 1", "close 1 = 1", "night = 0", "close 1 = 0",
            "night = 1", "of 0 0 = 1");
        edge("the higher slot is closed", "goods 29", "shut but 1 29", "pick 1", "close 29 = 1", "night = 0", "close 29 = 0",
            "night = 1", "of 0 0 = 1");
        edge("both are closed", "goods 29", "shut but", "pick 1", "night = 0", "of 0 0 = 29");
        edge("the first and the last slot take part", "goods 0 29", "shut but 0 29", "pick 2", "night = 1", "of 1 0 = 0",
            "of 0 0 = 29", "of 0 5 = 1", "of 1 5 = 1", "count 6 = 1");
        edge("of several the lowest lower slot", "good 29", "shut but 3 6 29", "pick 1", "bestSwap 0 = 3", "night = 1",
            "of 0 0 = 3");
        edge("of several the lowest lower slot, of others", "good 29", "shut but 17 22 29", "set 2 1", "set 1 0", "pick 1",
            "night = 1", "of 0 0 = 17");
        edge("of several then the lowest higher slot", "goods 8 5", "set 0 1", "pick 1", "pick 2", "bestSwap 0 = 0",
            "bestSwap 1 = 5", "night = 1", "of 1 0 = 0", "of 0 0 = 8");
        edge("a good that is not as fast gives its slot up", "goods 2 0", "shut but 0 1 2", "set 0 1", "set 1 0", "pick 1",
            "night = 1", "of 0 0 = 0", "of 1 0 = 2", "of 1 5 = 1");
    }

    private static void endsOfNights() {
        promise = 7;
        edge("the baskets are gone, nothing is picked today", "good 0", "pick 1", "night = 0", "count 2 = 0", "count 3 = 0",
            "of 0 2 = 0", "of 0 3 = 1", "basket 0 0 0 = NO_SUCH", "ifSwapped 0 0 = 0");
        edge("the night is counted, 0 at first", "count 0 = 0", "night = 0", "count 0 = 1", "night = 0", "count 0 = 2",
            "undo = 1", "count 0 = 1");
        edge("the baskets are those of yesterday", "good 0", "pick 1", "night = 0", "basket 1 0 0 = 1", "basket 1 0 1 = 2",
            "count 4 = 2");
        edge("none, if none was picked", "good 0", "pick 1", "night = 0", "night = 0", "basket 1 0 0 = NO_SUCH", "count 4 = 0",
            "often 1 = 1", "count 5 = 2");
        edge("the full day is that of yesterday", "good 0", "12 times pick 1 = 2", "night = 0", "basket 1 11 0 = 1",
            "basket 1 12 0 = NO_SUCH", "count 4 = 24");
        edge("fewer baskets than the day before", "good 0", "12 times pick 1", "night = 0", "pick 1", "night = 0",
            "basket 1 0 0 = 1", "basket 1 1 0 = NO_SUCH", "count 4 = 2");
        edge("walks of yesterday are as the goods stood", "good 29", "pick 1 = 36", "night = 1", "of 0 0 = 0",
            "basket 1 0 1 = 36", "basket 1 0 2 = 2", "count 4 = 36", "count 5 = 36");
    }

    private static void aboutGoods() {
        promise = 8;
        edge("goods from 0", "goods 3", "of -1 0 = NO_SUCH", "of LOW 0 = NO_SUCH", "of 0 0 = 3", "of 1 0 = NO_SUCH",
            "of HIGH 0 = NO_SUCH", "of 15 0 = NO_SUCH");
        edge("goods to 15", "goods 0 1 2 3 4 5 6 7 8 9 10 11 12 13 14 15", "of 15 0 = 15", "of 16 0 = NO_SUCH",
            "of 17 0 = NO_SUCH", "of 31 0 = NO_SUCH");
        edge("what is 0 to 5", "good 3", "of 0 -1 = BAD_VALUE", "of 0 LOW = BAD_VALUE", "of 0 0 = 3", "of 0 5 = 0",
            "of 0 6 = BAD_VALUE", "of 0 HIGH = BAD_VALUE");
        edge("no such good comes before what", "good 3", "of 1 6 = NO_SUCH", "of -1 -1 = NO_SUCH", "of 16 HIGH = NO_SUCH");
        edge("picked today and so far", "good 0", "12 times pick 1", "of 0 2 = 12", "of 0 3 = 12", "night = 0", "of 0 2 = 0",
            "of 0 3 = 12", "pick 1", "of 0 2 = 1", "of 0 3 = 13");
        edge("its steps, nearest and furthest", "goods 0 29", "of 0 4 = 1", "of 1 4 = 18", "set 2 1", "of 1 4 = 10", "set 2 9",
            "of 1 4 = 42", "of 0 4 = 1");
        edge("swapped by hand and by night", "goods 29", "swap 29 28 = 1", "of 0 5 = 1", "pick 1", "night = 1", "of 0 5 = 2",
            "undo = 3", "of 0 5 = 1");
    }

    private static void aboutSlots() {
        promise = 9;
        edge("slots are 0 to 29", "ofSlot -1 0 = NO_SUCH", "ofSlot LOW 0 = NO_SUCH", "ofSlot 0 1 = 1", "ofSlot 29 1 = 18",
            "ofSlot 30 0 = NO_SUCH", "ofSlot HIGH 0 = NO_SUCH");
        edge("what is 0 to 2", "ofSlot 0 -1 = BAD_VALUE", "ofSlot 0 LOW = BAD_VALUE", "ofSlot 0 0 = NONE", "ofSlot 0 2 = 0",
            "ofSlot 0 3 = BAD_VALUE", "ofSlot 0 HIGH = BAD_VALUE");
        edge("no such slot comes before what", "ofSlot 30 3 = NO_SUCH", "ofSlot -1 -1 = NO_SUCH");
        edge("none is no error: what is out of range is", "ofSlot 29 0 = NONE", "ofSlot 29 3 = BAD_VALUE");
        edge("its good, the first and the last one", "goods 0 1 2 3 4 5 6 7 8 9 10 11 12 13 14 29", "ofSlot 0 0 = 0",
            "ofSlot 29 0 = 15", "ofSlot 28 0 = NONE");
        edge("the ends of the aisles", "ofSlot 5 1 = 6", "ofSlot 6 1 = 4", "ofSlot 23 1 = 15", "ofSlot 24 1 = 13");
        edge("whether it is closed, 0 and 29", "close 29", "ofSlot 29 2 = 1", "ofSlot 28 2 = 0", "close 0", "ofSlot 0 2 = 1",
            "ofSlot 1 2 = 0");
    }

    private static void steps() {
        promise = 10;
        edge("slots are 0 to 29, each of both", "steps -1 0 = NO_SUCH", "steps 0 -1 = NO_SUCH", "steps 30 0 = NO_SUCH",
            "steps 0 30 = NO_SUCH", "steps LOW 0 = NO_SUCH", "steps 0 HIGH = NO_SUCH", "steps -1 30 = NO_SUCH",
            "steps 30 30 = NO_SUCH", "steps 0 29 = 17", "steps 29 0 = 17");
        edge("one and the same", "steps 0 0 = 0", "steps 29 29 = 0", "steps 6 6 = 0");
        edge("the ends of one aisle", "steps 0 5 = 5", "steps 5 0 = 5", "steps 24 29 = 5", "steps 29 24 = 5", "steps 6 7 = 1");
        edge("the next slot in the next aisle", "steps 5 6 = 8", "steps 6 5 = 8", "steps 0 6 = 3", "steps 23 24 = 8",
            "steps 11 17 = 13");
        edge("all aisles", "steps 5 29 = 22", "steps 0 24 = 12", "steps 24 5 = 17");
        edge("CROSS 1 and 9", "set 2 1", "steps 5 6 = 6", "steps 5 29 = 14", "steps 0 5 = 5", "set 2 9", "steps 5 6 = 14",
            "steps 5 29 = 46", "steps 0 5 = 5");
    }

    private static void baskets() {
        promise = 11;
        edge("day is 0 or 1", "good 0", "pick 1", "night = 0", "pick 1", "basket -1 0 0 = NO_SUCH", "basket 0 0 0 = 1",
            "basket 1 0 0 = 1", "basket 2 0 0 = NO_SUCH", "basket LOW 0 0 = NO_SUCH", "basket HIGH 0 0 = NO_SUCH");
        edge("there are not so many today", "good 0", "basket 0 0 0 = NO_SUCH", "pick 1", "basket 0 0 0 = 1",
            "basket 0 1 0 = NO_SUCH", "basket 0 -1 0 = NO_SUCH", "basket 0 LOW 0 = NO_SUCH", "basket 0 HIGH 0 = NO_SUCH",
            "basket 1 0 0 = NO_SUCH");
        edge("the first and the last of 12", "goods 0 1", "pick 2", "10 times pick 1", "pick 3", "basket 0 0 0 = 2",
            "basket 0 11 0 = 3", "basket 0 12 0 = NO_SUCH", "basket 0 11 1 = 4", "basket 0 11 2 = 4", "basket 0 13 0 = NO_SUCH");
        edge("the first and the last of 12 of yesterday", "goods 0 1", "pick 2", "10 times pick 1", "pick 3", "night = 0",
            "pick 1", "basket 1 0 0 = 2", "basket 1 11 0 = 3", "basket 1 12 0 = NO_SUCH", "basket 0 0 0 = 1",
            "basket 0 1 0 = NO_SUCH");
        edge("what is 0 to 2", "good 0", "pick 1", "basket 0 0 -1 = BAD_VALUE", "basket 0 0 LOW = BAD_VALUE", "basket 0 0 2 = 2",
            "basket 0 0 3 = BAD_VALUE", "basket 0 0 HIGH = BAD_VALUE", "night = 0", "basket 1 0 3 = BAD_VALUE",
            "basket 1 0 -1 = BAD_VALUE");
        edge("no such day or basket comes before what", "good 0", "pick 1", "basket 2 0 3 = NO_SUCH", "basket 0 1 3 = NO_SUCH",
            "basket 1 0 -1 = NO_SUCH");
        edge("when it was picked, and now", "good 0", "pick 1", "swap 0 29", "basket 0 0 1 = 2", "basket 0 0 2 = 36", "set 2 1",
            "basket 0 0 1 = 2", "basket 0 0 2 = 20", "set 0 0", "night = 0", "basket 1 0 1 = 2", "basket 1 0 2 = 20");
        edge("the largest basket", "goods 0 1 2 3 4 5 6 7 8 9 10 11 12 13 14 15", "pick 64512", "basket 0 0 0 = 64512", "night",
            "basket 1 0 0 = 64512");
    }

    private static void often() {
        promise = 12;
        edge("a good that is not there, empty, more than 6", "goods 0 1 2 3 4 5 6", "often 2^7 = NO_SUCH", "often 255 = NO_SUCH",
            "often -1 = NO_SUCH", "often 2^31 = NO_SUCH", "often 0 = BAD_VALUE", "often 127 = BAD_VALUE", "often 126 = 0",
            "often 64 = 0");
        edge("no goods", "often 0 = BAD_VALUE", "often 1 = NO_SUCH");
        edge("of just these goods", "goods 0 1 2", "pick 3", "often 1 = 0", "often 2 = 0", "often 3 = 1", "often 7 = 0", "pick 1",
            "often 3 = 1", "often 1 = 1");
        edge("a day's most and more", "good 0", "often 1 = 0", "12 times pick 1", "pick 1 = TOO_MANY", "often 1 = 12", "night",
            "often 1 = 12", "pick 1", "often 1 = 13", "undo", "often 1 = 12", "undo", "often 1 = 12", "undo", "often 1 = 11");
        edge("the last good", "goods 0 1 2 3 4 5 6 7 8 9 10 11 12 13 14 15", "often 2^15 = 0", "pick 2^15", "often 2^15 = 1",
            "often 2^16 = NO_SUCH");
        edge("restored", "good 0", "save 0", "pick 1", "pick 1", "save 1", "restore 0", "often 1 = 0", "restore 1", "often 1 = 2",
            "undo", "often 1 = 0");
        edge("12 baskets today are no error", "good 0", "12 times pick 1", "often 1 = 12");
    }

    private static void counts() {
        promise = 13;
        edge("what is 0 to 15", "count -1 = BAD_VALUE", "count LOW = BAD_VALUE", "count 0 = 0", "count 15 = 0",
            "count 16 = BAD_VALUE", "count HIGH = BAD_VALUE");
        edge("the fastest good, none without goods", "count 9 = NONE", "good 0", "count 9 = 0", "undo", "count 9 = NONE");
        edge("the fastest good, of several the lowest one", "goods 0 1 2", "count 9 = 0", "set 0 0", "pick 6", "night",
            "count 9 = 1", "pick 4", "night", "count 9 = 2", "pick 1", "pick 1", "pick 1", "pick 1", "night", "count 9 = 0");
        edge("the fastest good, the last one", "goods 0 1 2 3 4 5 6 7 8 9 10 11 12 13 14 15", "pick 2^15", "night",
            "count 9 = 15");
        edge("the slots that are closed, none and all", "count 8 = 0", "shut but", "count 8 = 1073741823", "shut but",
            "count 8 = 0");
        edge("the length of the pad, empty and full", "count 14 = 0", "10 times put 0x6E6E6E6E6E6E6E6E", "count 14 = 80",
            "wipe = 80", "count 14 = 0");
        edge("how many changes can be undone, none and 6", "count 15 = 0", "6 times night = 0", "count 15 = 6", "night = 0",
            "count 15 = 6", "undo = 5", "count 15 = 5");
        edge("goods, none and 16", "count 1 = 0", "goods 0 1 2 3 4 5 6 7 8 9 10 11 12 13 14 15", "count 1 = 16");
        edge("unlike baskets", "goods 0 1", "count 10 = 0", "pick 1", "count 10 = 1", "pick 1", "count 10 = 1", "pick 2",
            "pick 3", "count 10 = 3", "night", "pick 3", "count 10 = 3", "undo", "undo", "undo", "count 10 = 2");
        edge("the walks of today, of yesterday and all", "good 0", "12 times pick 1", "count 3 = 24", "count 4 = 0",
            "count 5 = 24", "night", "count 3 = 0", "count 4 = 24", "count 5 = 24", "pick 1", "count 3 = 2", "count 4 = 24",
            "count 5 = 26", "night", "count 4 = 2", "night", "count 4 = 0", "count 5 = 26");
        edge("the weight, of no goods and of goods without speed", "count 7 = 0", "goods 29", "count 7 = 0", "set 0 0", "pick 1",
            "night", "count 7 = f4.5");
        edge("swaps by night", "good 29", "count 6 = 0", "swap 29 28", "count 6 = 0", "pick 1", "night = 1", "count 6 = 1",
            "night = 0", "count 6 = 1", "undo", "undo", "count 6 = 0");
    }

    private static void means() {
        promise = 14;
        edge("0.0 without goods", "meanSpeed = 0", "night", "meanSpeed = 0", "good 0", "undo", "meanSpeed = 0");
        edge("goods without speed", "goods 0 1", "meanSpeed = 0");
        edge("one good", "good 0", "set 1 0", "pick 1", "night", "meanSpeed = d1.0");
        edge("16 goods", "goods 0 1 2 3 4 5 6 7 8 9 10 11 12 13 14 15", "set 1 0", "pick 2^15", "night", "meanSpeed = d0.0625",
            "pick 63", "night", "meanSpeed = d0.375");
        edge("the most", "good 0", "set 1 0", "12 times pick 1", "night", "meanSpeed = d12.0", "good 1", "meanSpeed = d6.0",
            "good 2", "meanSpeed = d4.0");
        edge("a mean that has no end", "goods 0 1 2", "set 1 0", "pick 1", "night", "meanSpeed = d0.3333333333333333", "pick 3",
            "night", "meanSpeed = d0.6666666666666666");
        edge("the speeds are cast to doubles first", "goods 0 1 2", "set 1 99", "pick 1", "night",
            "meanSpeed = d0.0033333332588275275");
    }

    private static void walks() {
        promise = 15;
        edge("a set of 1 to 6 goods", "goods 0 1 2 3 4 5 6", "walk 0 = BAD_VALUE", "walk 1 = 2", "walk 63 = 12",
            "walk 127 = BAD_VALUE", "walk 126 = 18");
        edge("a good that is not there", "walk 1 = NO_SUCH", "good 0", "walk 1 = 2", "walk 2 = NO_SUCH", "walk 3 = NO_SUCH",
            "walk -1 = NO_SUCH", "walk 2^31 = NO_SUCH");
        edge("the last good", "goods 0 1 2 3 4 5 6 7 8 9 10 11 12 13 14 29", "walk 2^15 = 36", "walk 2^16 = NO_SUCH",
            "walk 98304 = NO_SUCH");
        edge("a good that is not there comes before too many goods", "goods 0 1 2 3 4 5 6", "walk 255 = NO_SUCH");
        edge("12 baskets today are no error", "good 0", "12 times pick 1", "walk 1 = 2", "walk 0 = BAD_VALUE", "count 2 = 12");
        edge("the nearest and the furthest slot", "goods 0 29", "walk 1 = 2", "walk 2 = 36", "walk 3 = 36", "set 2 1",
            "walk 2 = 20", "set 2 9", "walk 2 = 84", "walk 1 = 2");
        edge("of several the lowest number, whose walk is another one", "goods 6 3 15", "walk 7 = 32", "swap 3 6 = 2",
            "walk 7 = 26");
        edge("as the goods stand now", "good 0", "pick 1", "swap 0 1", "walk 1 = 4");
    }

    private static void stops() {
        promise = 16;
        edge("rank 0 to the last one", "goods 0 1 2 3 4 5", "stop 63 -1 = NONE", "stop 63 0 = 0", "stop 63 5 = 5",
            "stop 63 6 = NONE", "stop 63 LOW = NONE", "stop 63 HIGH = NONE");
        edge("a basket of one good", "goods 0 1", "stop 2 -1 = NONE", "stop 2 0 = 1", "stop 2 1 = NONE", "stop 2 5 = NONE");
        edge("errors come before none", "goods 0 1 2 3 4 5 6", "stop 0 -1 = BAD_VALUE", "stop 127 7 = BAD_VALUE",
            "stop 128 -1 = NO_SUCH", "stop 255 0 = NO_SUCH", "stop -1 0 = NO_SUCH", "stop 0 0 = BAD_VALUE");
        edge("of several the lowest number", "goods 3 6", "stop 3 0 = 0", "stop 3 1 = 1", "swap 3 6", "stop 3 0 = 0",
            "stop 3 1 = 1");
        edge("nearer by one step comes before the lower number", "goods 4 6", "stop 3 0 = 1", "stop 3 1 = 0");
        edge("of several the lowest number on the way, too", "goods 5 1 6", "stop 7 0 = 1", "stop 7 1 = 0", "stop 7 2 = 2",
            "swap 5 6", "stop 7 1 = 0", "stop 7 2 = 2");
        edge("the last good", "goods 0 1 2 3 4 5 6 7 8 9 10 11 12 13 14 29", "stop 2^15 0 = 15", "stop 32769 0 = 0",
            "stop 32769 1 = 15", "stop 32769 2 = NONE");
        edge("after a longer walk", "goods 0 1 2 3 4 5", "stop 63 5 = 5", "stop 3 2 = NONE", "stop 3 1 = 1");
        edge("12 baskets today are no error", "good 0", "12 times pick 1", "stop 1 0 = 0", "stop 1 1 = NONE");
    }

    private static void shortest() {
        promise = 17;
        edge("a set of 1 to 6 goods", "goods 0 1 2 3 4 5 6", "shortest 0 = BAD_VALUE", "shortest 1 = 2", "shortest 63 = 12",
            "shortest 126 = 18", "shortest 127 = BAD_VALUE");
        edge("a good that is not there", "shortest 1 = NO_SUCH", "shortest 0 = BAD_VALUE", "good 0", "shortest 1 = 2",
            "shortest 2 = NO_SUCH", "shortest 3 = NO_SUCH", "shortest -1 = NO_SUCH", "shortest 2^31 = NO_SUCH",
            "shortest 255 = NO_SUCH");
        edge("the last good", "goods 0 1 2 3 4 5 6 7 8 9 10 11 12 13 14 29", "shortest 2^15 = 36", "shortest 2^16 = NO_SUCH");
        edge("whatever the order", "goods 6 5 24", "walk 7 = 42", "shortest 7 = 36");
        edge("as long as the walk, when that is the shortest", "goods 6 3 15", "walk 7 = 32", "shortest 7 = 26", "swap 3 6",
            "walk 7 = 26", "shortest 7 = 26");
        edge("all aisles to their ends", "goods 5 11 17 23 29", "shortest 31 = 76", "set 2 1", "shortest 31 = 60", "set 2 9",
            "shortest 31 = 124");
        edge("12 baskets today are no error", "good 0", "12 times pick 1", "shortest 1 = 2");
    }

    private static void bestSwaps() {
        promise = 18;
        edge("what is 0 or 1", "bestSwap -1 = BAD_VALUE", "bestSwap 2 = BAD_VALUE", "bestSwap LOW = BAD_VALUE",
            "bestSwap HIGH = BAD_VALUE", "bestSwap 0 = NONE", "bestSwap 1 = NONE");
        edge("the lower and the higher slot", "good 29", "pick 1", "bestSwap 0 = 0", "bestSwap 1 = 29", "bestSwap 2 = BAD_VALUE",
            "bestSwap -1 = BAD_VALUE");
        edge("the good may be in the lower one", "good 5", "pick 1", "shut but 5 6", "bestSwap 0 = 5", "bestSwap 1 = 6");
        edge("none, as no good is fast", "goods 0 29", "bestSwap 0 = NONE", "bestSwap 1 = NONE");
        edge("none, as all stand well", "goods 0 1", "pick 1", "bestSwap 0 = NONE");
        edge("none, as the slots are closed", "good 29", "pick 1", "shut but 29", "bestSwap 0 = NONE", "close 29", "close 0",
            "bestSwap 1 = NONE", "close 29", "bestSwap 1 = 29");
        edge("behind the change of speeds: what comes", "goods 0 29", "set 1 0", "set 0 0", "pick 1", "night", "pick 2",
            "bestSwap 1 = 29", "of 1 1 = 0");
        edge("behind the change of speeds: what goes", "good 29", "set 1 0", "set 0 0", "pick 1", "night", "bestSwap 0 = NONE",
            "of 0 1 = f1.0", "set 1 1", "bestSwap 0 = 0");
        edge("if MOVES was 1 or more", "good 29", "pick 1", "set 0 0", "bestSwap 0 = 0", "bestSwap 1 = 29", "set 0 1",
            "bestSwap 0 = 0", "set 0 9", "bestSwap 0 = 0");
        edge("the first one of several", "goods 28 29", "pick 3", "bestSwap 0 = 0", "bestSwap 1 = 29", "set 0 1", "night = 1",
            "of 1 0 = 0", "of 0 0 = 28");
        edge("nothing changes", "good 29", "pick 1", "bestSwap 0 = 0", "of 0 0 = 29", "of 0 1 = 0", "of 0 2 = 1", "of 0 5 = 0",
            "count 0 = 0", "count 2 = 1", "count 6 = 0", "count 15 = 2");
    }

    private static void ifSwapped() {
        promise = 19;
        edge("slots are 0 to 29, each of both", "good 0", "pick 1", "ifSwapped -1 0 = NO_SUCH", "ifSwapped 0 -1 = NO_SUCH",
            "ifSwapped 30 0 = NO_SUCH", "ifSwapped 0 30 = NO_SUCH", "ifSwapped LOW 0 = NO_SUCH", "ifSwapped 0 HIGH = NO_SUCH",
            "ifSwapped 30 30 = NO_SUCH", "ifSwapped -1 -1 = NO_SUCH", "ifSwapped 0 29 = 36", "ifSwapped 29 0 = 36");
        edge("one and the same", "good 0", "pick 1", "ifSwapped 0 0 = 2", "ifSwapped 29 29 = 2", "swap 0 29",
            "ifSwapped 0 0 = 36", "ifSwapped 29 29 = 36");
        edge("no baskets today", "good 0", "ifSwapped 0 29 = 0", "ifSwapped 0 0 = 0", "pick 1", "night", "ifSwapped 0 29 = 0");
        edge("12 baskets", "good 0", "12 times pick 1", "ifSwapped 0 0 = 24", "ifSwapped 0 29 = 432");
        edge("closed or not, empty or not", "goods 0 1", "pick 1", "close 0", "close 29", "ifSwapped 0 29 = 36",
            "ifSwapped 28 29 = 2", "ifSwapped 0 1 = 4");
        edge("nothing changes", "good 0", "pick 1", "ifSwapped 0 29 = 36", "of 0 0 = 0", "of 0 5 = 0", "ofSlot 29 0 = NONE",
            "count 3 = 2", "basket 0 0 2 = 2", "count 15 = 2");
    }

    private static void badly() {
        promise = 20;
        edge("no goods, one good", "badly = 0", "good 29", "badly = 0", "pick 1", "set 0 0", "night", "badly = 0");
        edge("as fast is not faster", "goods 0 1", "set 0 0", "set 1 0", "pick 3", "night", "badly = 0", "pick 2", "night",
            "badly = 2");
        edge("as near is not nearer", "goods 3 6", "set 0 0", "set 1 0", "pick 2", "night", "badly = 0", "swap 3 2", "badly = 2");
        edge("slower is not faster", "goods 0 1", "set 0 0", "set 1 0", "pick 1", "night", "badly = 0", "swap 0 2", "badly = 1");
        edge("all but the nearest", "goods 0 1 2 3 4 5 6 7 8 9 10 11 12 13 14 15", "set 0 0", "set 1 0", "pick 126", "pick 8064",
            "pick 57344", "night", "badly = 65534");
        edge("only the first good", "goods 29 0 1 2 3 4 5 6 7 8 9 10 11 12 13 14", "set 0 0", "set 1 0", "pick 1", "night",
            "badly = 1");
        edge("only the last good", "goods 0 1 2 3 4 5 6 7 8 9 10 11 12 13 14 29", "set 0 0", "set 1 0", "pick 2^15", "night",
            "badly = 2^15");
        edge("those of today do not count", "goods 0 29", "pick 2", "badly = 0");
    }

    private static void puts() {
        promise = 21;
        edge("1 to 8 characters", "put 0 = BAD_VALUE", "put 0x6E = 1", "put 0x6E6E6E6E6E6E6E6E = 9", "put 0x6E6E6E6E6E6E6E = 16",
            "count 14 = 16");
        edge("codes are 33 to 126", "put 32 = BAD_VALUE", "put 33 = 1", "put 126 = 2", "put 127 = BAD_VALUE",
            "put 128 = BAD_VALUE", "put 255 = BAD_VALUE", "put 1 = BAD_VALUE", "count 14 = 2");
        edge("codes of the first of two are 33 to 126", "put 0x206E = BAD_VALUE", "put 0x216E = 2", "put 0x7E6E = 4",
            "put 0x7F6E = BAD_VALUE", "put 0xFF6E = BAD_VALUE", "count 14 = 4");
        edge("codes of the first of eight are 33 to 126", "put 0x206E6E6E6E6E6E6E = BAD_VALUE", "put 0x216E6E6E6E6E6E6E = 8",
            "put 0x7E6E6E6E6E6E6E6E = 16", "put 0x7F6E6E6E6E6E6E6E = BAD_VALUE", "put 0x806E6E6E6E6E6E6E = BAD_VALUE",
            "put 0xFF6E6E6E6E6E6E6E = BAD_VALUE", "put 0x016E6E6E6E6E6E6E = BAD_VALUE", "count 14 = 16");
        edge("above bits that are 0 all is 0", "put 0x6E006E = BAD_VALUE", "put 0x6E00006E = BAD_VALUE",
            "put 0x6E0000000000006E = BAD_VALUE", "put 0x800000000000006E = BAD_VALUE", "put 0x1006E = BAD_VALUE",
            "put 0x100000000 = BAD_VALUE", "put 0x6E00 = BAD_VALUE", "put 0x6E00000000000000 = BAD_VALUE",
            "put 0x006E6E6E6E6E6E6E = 7", "count 14 = 7");
        edge("all bits, and the first one alone", "put -1 = BAD_VALUE", "put LOWEST = BAD_VALUE", "put HIGHEST = BAD_VALUE",
            "count 14 = 0");
        edge("80 and no more, one by one", "9 times put 0x6E6E6E6E6E6E6E6E", "7 times put 0x6E", "count 14 = 79",
            "put 0x6E6E = TOO_MANY", "put 0x6E6E6E6E6E6E6E6E = TOO_MANY", "count 14 = 79", "put 0x6E = 80", "put 0x6E = TOO_MANY",
            "count 14 = 80", "wipe = 80", "put 0x6E = 1");
        edge("80 and no more, by eights", "9 times put 0x6E6E6E6E6E6E6E6E", "put 0x6E6E6E6E6E6E6E6E = 80",
            "put 0x6E6E6E6E6E6E6E6E = TOO_MANY", "undo = NOT_POSSIBLE");
        edge("80 and no more, by eights from 73", "9 times put 0x6E6E6E6E6E6E6E6E", "put 0x6E = 73",
            "put 0x6E6E6E6E6E6E6E6E = TOO_MANY", "put 0x6E6E6E6E6E6E6E = 80");
        edge("a bad value comes before a full pad", "10 times put 0x6E6E6E6E6E6E6E6E", "put 0 = BAD_VALUE", "put 32 = BAD_VALUE",
            "put 0x206E = BAD_VALUE", "put 0x6E006E = BAD_VALUE", "put -1 = BAD_VALUE", "put 0x6E = TOO_MANY");
        edge("the lowest bits are the last character", "put 0x67313B78323B6E = 7", "fault = NONE", "carryOut = 3",
            "ofSlot 1 0 = 0", "count 8 = 4", "count 0 = 1");
        edge("what is put is appended", "put 0x67 = 1", "put 0x31 = 2", "put 0x32 = 3", "carryOut = 1", "of 0 0 = 12");
        edge("no change", "put 0x6E", "count 15 = 0");
    }

    private static void wipes() {
        promise = 22;
        edge("empty", "wipe = 0", "count 14 = 0", "wipe = 0");
        edge("one character", "put 0x6E = 1", "wipe = 1", "wipe = 0", "fault = 0");
        edge("full", "10 times put 0x6E6E6E6E6E6E6E6E", "wipe = 80", "count 14 = 0", "fault = 0", "put 0x6E = 1", "fault = NONE");
        edge("no change", "put 0x6E", "wipe = 1", "count 15 = 0", "undo = NOT_POSSIBLE", "count 14 = 0");
        edge("nothing of it comes back", "write g1;g2;g3", "wipe = 8", "write n", "fault = NONE", "carryOut = 1", "count 1 = 0",
            "count 0 = 1");
    }

    /** The pad with the text has that fault, which is the due answer of fault(); a text of which nothing is kept is BAD_TEXT. */
    private static void fault(String text, String due) {
        boolean isGood = due.equals("NONE");
        edge("\"" + text + "\"", "write " + text, "fault = " + due, "count 14 = " + text.length(), "count 15 = 0",
            isGood ? "count 0 = 0" : "carryOut = BAD_TEXT", "count 14 = " + text.length(), "fault = " + due);
    }

    private static void faults() {
        promise = 23;
        fault("", "0");
        String[] good = {"n", "g1", "b1", "b1,2", "b1,2,3", "m1-2", "x1", "n;n", "g1;b1", "b1;g1", "b1,2;m1-2;n", "m1-2;x1",
            "x1;n;x1"};
        for (String text : good) {
            fault(text, "NONE");
        }
        String[] endTooEarly = {"g", "b", "m", "x", "m1", "m12", "m1-", "b1,", "n;", "g1;", "b1,2;", "m1-2;", "x1;", "n;g",
            "n;m0", "b99,"};
        for (String text : endTooEarly) {
            fault(text, "" + text.length());
        }
        String[] badAtStart = {"a", "G1", "N", "1", "0", ";", ",", "-", "!", "~", "ff", "hh", "oo", "yy", "ww", "cc"};
        for (String text : badAtStart) {
            fault(text, "0");
        }
        String[] badAtSecond = {"n1", "nn", "n,", "n-", "g;", "g,1", "g-1", "gg", "b,1", "b;", "bn", "m-1", "m;", "x-1", "x;1",
            "g/", "g:"};
        for (String text : badAtSecond) {
            fault(text, "1");
        }
        String[] badAtThird = {"g1,2", "g1-2", "g1g", "x1,2", "x1-2", "b1-2", "m1,2", "m1;n", "n;;n", "n;1", "n;,", "g1/", "g1:",
            "m1:1", "x1n"};
        for (String text : badAtThird) {
            fault(text, "2");
        }
        fault("b1,,2", "3");
        fault("b1,;n", "3");
        fault("m1--2", "3");
        fault("m1-;n", "3");
        fault("m1-2-3", "4");
        fault("m1-2,3", "4");
        fault("n;n;q;n", "4");
        fault("q;q", "0");
        fault("g1;".repeat(26) + "n;", "80");
        fault("g1;".repeat(26) + "n1", "79");
        fault("g1;".repeat(26) + "g7", "NONE");
        fault("b" + "9,".repeat(39) + "9", "NONE");
        fault("b" + "9,".repeat(39) + "-", "79");
    }

    private static void faultsOfNumbers() {
        promise = 23;
        String[] before = {"g", "b", "m1-", "x", "b1,", "n;b12,99,", "m99-"};
        for (String start : before) {
            String[] numbers = {"0", "1", "9", "10", "19", "90", "99"};
            for (String number : numbers) {
                fault(start + number, "NONE");
            }
            String[] leadingZero = {"00", "01", "09", "001"};
            for (String number : leadingZero) {
                fault(start + number, "" + (start.length() + 1));
            }
            String[] above99 = {"100", "101", "990", "999", "1000"};
            for (String number : above99) {
                fault(start + number, "" + (start.length() + 2));
            }
        }
        String[][] beforeMark = {{"m0-0", "NONE"}, {"m10-0", "NONE"}, {"m99-99", "NONE"}, {"m00-0", "2"}, {"m01-0", "2"},
            {"m100-0", "3"}, {"m990-0", "3"}};
        for (String[] row : beforeMark) {
            fault(row[0], row[1]);
        }
    }

    private static void carryOut() {
        promise = 24;
        edge("the pad has a fault: then it stays", "write g1;n;", "carryOut = BAD_TEXT", "count 14 = 5", "count 1 = 0",
            "count 0 = 0", "count 15 = 0", "write n", "carryOut = 3");
        edge("an empty pad has a fault", "carryOut = BAD_TEXT", "count 15 = 0");
        edge("none is carried out: a change all the same", "write g30;n", "carryOut = 0", "count 14 = 0", "count 15 = 1",
            "count 0 = 0", "undo = 0", "count 14 = 0");
        edge("the last one returns an error", "write n;n;g30", "carryOut = 2", "count 0 = 2", "count 14 = 0", "count 15 = 1");
        edge("all", "write g1;g2;n", "carryOut = 3", "count 1 = 2", "count 0 = 1", "count 15 = 1", "undo = 0", "count 1 = 0",
            "count 0 = 0");
        edge("a full pad", "write " + "g1;".repeat(26) + "g7", "carryOut = 1", "count 14 = 0", "count 1 = 1");
        edge("the most orders", "write " + "n;".repeat(39) + "n", "count 14 = 79", "carryOut = 40", "count 0 = 40", "undo = 0",
            "count 0 = 0");
        edge("slots are 0 to 29: g", "write g0;g29;g30;n", "carryOut = 2", "of 0 0 = 0", "of 1 0 = 29", "count 0 = 0");
        edge("slots are 0 to 29: x", "write x0;x29;x30;n", "carryOut = 2", "count 8 = 536870913", "write x99", "carryOut = 0");
        edge("slots are 0 to 29: m", "good 0", "write m0-29;m29-30;n", "carryOut = 1", "of 0 0 = 29", "write m30-29",
            "carryOut = 0", "write m29-0", "carryOut = 1", "of 0 0 = 0", "write m99-99", "carryOut = 0");
        edge("both are the same: m", "write m3-3", "carryOut = 0", "write m3-4", "carryOut = 1");
        edge("a slot has a good: g", "write g3;g3;n", "carryOut = 1", "count 0 = 0");
        edge("16 goods: g", "write g0;g1;g2;g3;g4;g5;g6;g7;g8;g9;g10;g11;g12;g13;g14;g15;g16;n", "carryOut = 16", "count 1 = 16",
            "count 0 = 0", "ofSlot 16 0 = NONE");
        edge("goods that are there: b", "goods 3 4", "write b1;b2;n", "carryOut = 1", "basket 0 0 0 = 2", "count 0 = 0");
        edge("goods that are there: b above all masks", "goods 0 1 2 3 4 5 6 7 8 9 10 11 12 13 14 15", "write b15",
            "carryOut = 1", "write b16", "carryOut = 0", "write b31", "carryOut = 0", "write b32", "carryOut = 0", "write b0,32",
            "carryOut = 0", "write b64,1", "carryOut = 0", "write b99", "carryOut = 0", "count 2 = 1", "basket 0 0 0 = 2^15");
        edge("goods of an empty shed: b", "write b0", "carryOut = 0", "write b0,0", "carryOut = 0");
        edge("one told twice counts once: b", "goods 0 1 2 3 4 5 6", "write b1,1", "carryOut = 1", "basket 0 0 0 = 2",
            "of 1 2 = 1", "write b0,1,2,3,4,5,0,5", "carryOut = 1", "basket 0 1 0 = 63", "write b0,1,2,3,4,5,6", "carryOut = 0",
            "write b5,4,3,2,1,0", "carryOut = 1", "often 63 = 2");
        edge("12 of a day: b", "good 0", "write " + "b0;".repeat(12) + "b0;n", "carryOut = 12", "count 2 = 12", "count 0 = 0");
        edge("a night between: b", "good 0", "write " + "b0;".repeat(12) + "n;" + "b0;".repeat(12) + "b0", "carryOut = 25",
            "count 2 = 12", "count 0 = 1");
        edge("one change with all of them", "6 times night", "write n;n;n", "carryOut = 3", "count 15 = 6", "undo = 5",
            "count 0 = 6", "undo = 4", "count 0 = 5");
        edge("an order that returns 0 is no error", "write n;m1-2;x3;x3;n", "carryOut = 5", "count 0 = 2");
        edge("the next text begins anew", "write n;n", "carryOut = 2", "write n", "carryOut = 1", "count 0 = 3",
            "carryOut = BAD_TEXT");
    }

    private static void undo() {
        promise = 25;
        edge("there is none", "undo = NOT_POSSIBLE", "night", "undo = 0", "undo = NOT_POSSIBLE", "count 0 = 0");
        edge("at most 6 states", "5 times night", "count 15 = 5", "night", "count 15 = 6", "night", "count 15 = 6", "undo = 5",
            "undo = 4", "undo = 3", "undo = 2", "undo = 1", "undo = 0", "count 0 = 1", "undo = NOT_POSSIBLE", "count 0 = 1");
        edge("just 6 states", "6 times night", "undo = 5", "count 0 = 5", "4 times undo", "undo = 0", "count 0 = 0",
            "undo = NOT_POSSIBLE");
        edge("the oldest one is dropped, many times", "40 times night", "count 15 = 6", "6 times undo", "count 0 = 34",
            "undo = NOT_POSSIBLE");
        edge("undone and done by turns", "7 times night", "undo = 5", "undo = 4", "count 0 = 5", "night", "count 15 = 5", "night",
            "count 15 = 6", "night", "count 15 = 6", "count 0 = 8", "6 times undo", "count 0 = 2", "undo = NOT_POSSIBLE");
        edge("also if nothing is different then", "set 0 2", "swap 0 1", "close 0", "close 0", "save 0", "restore 0",
            "count 15 = 5", "write g30", "carryOut = 0", "count 15 = 6", "undo = 5", "undo = 4", "undo = 3", "undo = 2",
            "undo = 1", "undo = 0");
        edge("an error records nothing", "set 0 10", "good 30", "swap 0 0", "close 30", "pick 0", "carryOut", "restore 0", "undo",
            "count 15 = 0", "good 0", "good 0", "count 15 = 1", "undo = 0", "count 1 = 0");
        edge("no change records nothing", "good 0", "save 0", "put 0x6E", "wipe", "fault", "walk 1", "stop 1 0", "shortest 1",
            "bestSwap 0", "ifSwapped 0 1", "badly", "steps 0 1", "count 15 = 1");
        edge("undo is no change", "night", "night", "undo = 1", "undo = 0", "undo = NOT_POSSIBLE", "count 0 = 0");
        edge("each method that is a change", "set 0 3", "good 0", "swap 0 1", "close 2", "pick 1", "night", "count 15 = 6",
            "undo = 5", "count 0 = 0", "count 2 = 1", "undo = 4", "count 2 = 0", "count 8 = 4", "undo = 3", "count 8 = 0",
            "of 0 0 = 1", "undo = 2", "of 0 0 = 0", "undo = 1", "count 1 = 0", "count 11 = 3", "undo = 0", "count 11 = 2");
        edge("except the pad", "night", "put 0x6E", "undo = 0", "count 14 = 1", "fault = NONE", "wipe = 1", "night", "undo = 0",
            "count 14 = 0");
        edge("except the pad that was emptied", "write n", "carryOut = 1", "undo = 0", "count 14 = 0", "count 0 = 0");
        edge("except what was saved", "good 0", "save 0", "undo = 0", "count 1 = 0", "restore 0 = 1", "count 1 = 1", "undo = 0",
            "count 1 = 0", "restore 0 = 1");
        edge("except what was overwritten", "save 0", "good 0", "save 0", "undo = 0", "restore 0 = 1");
        edge("restore is undone", "good 0", "save 0", "good 1", "restore 0 = 1", "undo = 2", "count 1 = 2", "undo = 1",
            "count 1 = 1");
        edge("an order records nothing by itself", "write n;n;n;n;n;n;n;n", "carryOut = 8", "count 15 = 1", "undo = 0",
            "count 0 = 0");
    }

    private static void saves() {
        promise = 26;
        edge("slots are 0 and 1", "good 0", "save -1 = BAD_VALUE", "save LOW = BAD_VALUE", "save 0 = 1", "save 1 = 1",
            "save 2 = BAD_VALUE", "save HIGH = BAD_VALUE", "count 15 = 1");
        edge("an empty shed", "save 0 = 0", "good 0", "restore 0 = 0", "count 1 = 0", "restore 1 = NOT_POSSIBLE");
        edge("a full shed", "goods 0 1 2 3 4 5 6 7 8 9 10 11 12 13 14 15", "save 1 = 16", "undo", "count 1 = 15",
            "restore 1 = 16", "of 15 0 = 15", "good 29 = TOO_MANY");
        edge("overwrites what was saved there", "good 0", "save 0 = 1", "good 1", "save 0 = 2", "good 2", "restore 0 = 2",
            "of 1 0 = 1", "of 2 0 = NO_SUCH");
        edge("the other slot stays", "save 0 = 0", "good 0", "save 1 = 1", "restore 0 = 0", "count 1 = 0", "restore 1 = 1",
            "count 1 = 1", "restore 0 = 0");
        edge("a refused save leaves both", "good 0", "save 2 = BAD_VALUE", "save -1 = BAD_VALUE", "restore 0 = NOT_POSSIBLE",
            "restore 1 = NOT_POSSIBLE");
        edge("except the pad", "put 0x6E", "save 0", "put 0x6E", "restore 0", "count 14 = 2", "wipe", "restore 0",
            "count 14 = 0");
        edge("except the history", "night", "night", "save 0", "undo", "undo", "count 15 = 0", "restore 0", "count 15 = 1",
            "count 0 = 2", "undo = 0", "count 0 = 0");
        edge("no change", "save 0", "count 15 = 0", "undo = NOT_POSSIBLE");
        edge("what comes behind is not saved", "good 0", "save 0", "pick 1", "swap 0 29", "close 3", "set 2 9", "night",
            "restore 0", "of 0 0 = 0", "of 0 1 = 0", "of 0 2 = 0", "of 0 3 = 0", "of 0 5 = 0", "count 0 = 0", "count 2 = 0",
            "count 4 = 0", "count 5 = 0", "count 6 = 0", "count 8 = 0", "count 10 = 0", "count 13 = 3", "often 1 = 0",
            "basket 1 0 0 = NO_SUCH");
    }

    private static void restores() {
        promise = 27;
        edge("slots are 0 and 1", "save 0", "save 1", "restore -1 = BAD_VALUE", "restore LOW = BAD_VALUE",
            "restore 2 = BAD_VALUE", "restore HIGH = BAD_VALUE", "count 15 = 0", "restore 0 = 0", "restore 1 = 0",
            "count 15 = 2");
        edge("no such slot comes before nothing saved", "restore 2 = BAD_VALUE", "restore -1 = BAD_VALUE",
            "restore 0 = NOT_POSSIBLE", "restore 1 = NOT_POSSIBLE", "count 15 = 0");
        edge("nothing was saved in it, though in the other", "good 0", "save 1", "restore 0 = NOT_POSSIBLE", "restore 1 = 1",
            "count 1 = 1");
        edge("the slot keeps it", "good 0", "pick 1", "save 0", "restore 0 = 1", "pick 1", "good 1", "close 4", "swap 0 1",
            "night", "restore 0 = 1", "count 1 = 1", "count 2 = 1", "count 8 = 0", "of 0 0 = 0", "of 0 3 = 1", "count 0 = 0");
        edge("saved last", "save 0", "good 0", "save 0", "good 1", "save 0", "undo", "undo", "restore 0 = 2");
        edge("a change: at most 6 of them", "save 0", "8 times restore 0 = 0", "count 15 = 6", "5 times undo", "undo = 0",
            "undo = NOT_POSSIBLE");
        edge("a refused one records nothing", "night", "restore 0 = NOT_POSSIBLE", "restore 2 = BAD_VALUE", "count 15 = 1",
            "undo = 0");
        edge("a fuller shed becomes an emptier one", "good 0", "save 0", "good 1", "pick 2", "close 9", "night", "restore 0 = 1",
            "of 1 0 = NO_SUCH", "ofSlot 1 0 = NONE", "walk 2 = NO_SUCH", "good 1 = 1", "of 1 1 = 0", "of 1 2 = 0", "of 1 3 = 0",
            "of 1 5 = 0", "often 2 = 0", "count 4 = 0");
        edge("12 of a saved day are those of the restored one", "good 0", "12 times pick 1", "save 0", "night", "restore 0 = 1",
            "pick 1 = TOO_MANY", "basket 0 11 0 = 1", "basket 1 0 0 = NO_SUCH");
    }
}
