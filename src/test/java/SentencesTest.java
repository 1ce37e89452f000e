/**
 * The document from its first line to its last: sentences that say how things are ordinarily, each with a row of calls
 * worked out by hand in which any other reading would answer something else. EdgesTest has those that name edges.
 */
public final class SentencesTest {
    private static int wrong = 0;
    private static int held = 0;
    private static String section = "";

    public static void main(String[] args) {
        whatItIs();
        conventions();
        settings();
        slotsAndGoods();
        baskets();
        walks();
        speedsOfNights();
        movesOfNights();
        weights();
        closedSlots();
        texts();
        whatThereIs();
        whatIf();
        undoAndSaving();
        System.out.println(wrong == 0 ? "all " + held + " sentences hold" : wrong + " answers are not as due");
        if (wrong != 0) {
            System.exit(1);
        }
    }

    private static void says(String sentence, String... rows) {
        held++;
        for (String one : Calls.wrongOfBoth(rows)) {
            wrong++;
            System.out.println(section + ", " + sentence + ": " + one);
        }
    }

    private static void whatItIs() {
        section = "What it is";
        says("a day and a night", "good 29 = 0", "good 13 = 1", "pick 1 = 36", "pick 3 = 38", "count 3 = 74", "bestSwap 0 = 0",
            "ifSwapped 0 29 = 18", "night = 2", "of 0 0 = 0", "of 1 0 = 1", "of 0 1 = f0.5", "of 1 1 = f0.25", "badly = 0",
            "basket 1 1 1 = 38", "basket 1 1 2 = 4", "undo = 4", "of 0 0 = 29", "count 3 = 74");
        says("512 calls", "goods 29 28 27", "walk 7 = 36", "127 times pick 1", "126 times night", "255 times walk 7 = 34");
    }

    private static void conventions() {
        section = "Conventions";
        says("everything is numbered from 0", "good 0 = 0", "good 1 = 1", "pick 1 = 2", "basket 0 0 0 = 1", "stop 3 0 = 0",
            "ofSlot 0 0 = 0");
        says("sets of goods are bit masks", "goods 0 1 2 3", "pick 10", "basket 0 0 0 = 10", "of 0 2 = 0", "of 1 2 = 1",
            "of 2 2 = 0", "of 3 2 = 1");
        says("sets of slots are bit masks", "close 3", "close 10", "count 8 = 1032");
        says("lengths are told in steps", "goods 7", "of 0 4 = 5", "walk 1 = 10", "shortest 1 = 10");
        says("speeds are answered by their bits", "goods 0", "set 1 0", "pick 1", "night", "of 0 1 = 1065353216", "pick 1",
            "pick 1", "night", "of 0 1 = 1073741824");
    }

    private static void settings() {
        section = "Settings";
        says("MOVES: swaps of a night at most", "goods 29 28 27 26", "set 0 3", "pick 15", "night = 3", "count 6 = 3");
        says("FORGET: hundredths that stay", "good 0", "set 1 0", "pick 1", "night", "set 1 20", "night", "of 0 1 = f0.2",
            "set 1 50", "night", "of 0 1 = f0.1");
        says("CROSS: steps from an aisle to the next one", "steps 0 6 = 3", "steps 6 12 = 3", "steps 0 12 = 6", "set 2 7",
            "steps 0 6 = 7", "steps 0 12 = 14", "ofSlot 12 1 = 15", "ofSlot 6 1 = 8", "ofSlot 5 1 = 6");
        says("CROSS changes nights: slot 6 is nearer than slot 2", "good 29", "shut but 2 6 29", "set 2 1", "pick 1", "night = 1",
            "of 0 0 = 6");
    }

    private static void slotsAndGoods() {
        section = "Slots, goods";
        says("a slot is 6 times its aisle and its place", "steps 0 1 = 1", "steps 5 4 = 1", "steps 6 11 = 5", "steps 11 12 = 8",
            "steps 24 29 = 5");
        says("both places, together, and CROSS for each aisle between", "steps 3 8 = 8", "steps 8 3 = 8", "steps 3 20 = 14",
            "steps 9 27 = 15", "steps 27 9 = 15", "steps 2 26 = 16");
        says("the desk is 1 step from the slot 0, else 1 more", "ofSlot 0 1 = 1", "ofSlot 3 1 = 4", "ofSlot 6 1 = 4",
            "ofSlot 20 1 = 12", "ofSlot 26 1 = 15");
        says("goods stay numbered as they came", "goods 7 3", "swap 3 7 = 2", "good 5 = 2", "of 0 0 = 3", "of 1 0 = 7",
            "of 2 0 = 5", "ofSlot 3 0 = 0");
    }

    private static void baskets() {
        section = "Baskets";
        says("each good is picked once more today and so far", "goods 0 1 2", "pick 5", "pick 4", "night", "pick 6", "of 0 2 = 0",
            "of 1 2 = 1", "of 2 2 = 1", "of 0 3 = 1", "of 1 3 = 1", "of 2 3 = 3");
        says("the walks of a day are as they were when they were picked", "goods 0 1", "pick 1 = 2", "swap 0 6 = 1",
            "pick 3 = 10", "set 2 5", "pick 1 = 12", "count 3 = 24", "count 5 = 24", "set 0 0", "night", "count 4 = 24",
            "basket 1 0 1 = 2", "basket 1 1 1 = 10", "basket 1 2 1 = 12", "basket 1 0 2 = 12", "basket 1 1 2 = 14");
        says("a basket may be picked again and again", "goods 0 1", "pick 3", "pick 3", "pick 1", "pick 3", "often 3 = 3",
            "often 1 = 1", "often 2 = 0", "count 10 = 2", "count 2 = 4");
    }

    private static void walks() {
        section = "Walks";
        says("to the nearest one, though another order is shorter", "goods 6 5 24", "walk 7 = 42", "stop 7 0 = 0", "stop 7 1 = 1",
            "stop 7 2 = 2", "shortest 7 = 36");
        // From slot 0 both others are 3 steps away; the one with the lower number stands behind in the row of those left.
        says("of several the lowest number of those that are left", "goods 3 6 0", "stop 7 0 = 2", "stop 7 1 = 0", "stop 7 2 = 1",
            "walk 7 = 14");
        says("of several the lowest number, whichever slot", "goods 6 3 0", "stop 7 1 = 0", "stop 7 2 = 1", "walk 7 = 14");
        says("the lowest number twice", "goods 15 10 0 6 3", "stop 31 0 = 2", "stop 31 1 = 3", "stop 31 2 = 1", "stop 31 3 = 0",
            "stop 31 4 = 4", "walk 31 = 34");
        says("from the last one back to the desk", "goods 0 28", "walk 3 = 34", "walk 2 = 34", "walk 1 = 2");
        // In an aisle only the furthest good counts for the shortest walk, whatever its number.
        says("the shortest of all walks: goods of one aisle", "goods 5 2", "shortest 3 = 12", "shortest 1 = 12", "shortest 2 = 6");
        says("the shortest of all walks: each aisle to its end", "goods 11 7 24 14 13 5", "shortest 63 = 50", "shortest 15 = 40",
            "shortest 16 = 16");
    }

    private static void speedsOfNights() {
        section = "Nights, speeds";
        says("picked * (100 - FORGET) / 100, from the left", "good 0", "set 1 70", "3 times pick 1", "night", "of 0 1 = f0.9");
        says("speed * FORGET / 100, from the left", "good 0", "set 1 0", "3 times pick 1", "night", "of 0 1 = f3.0", "set 1 30",
            "night", "of 0 1 = f0.9");
        says("each part is divided before they are added", "good 0", "set 1 0", "pick 1", "night", "set 1 5", "pick 1", "pick 1",
            "night", "of 0 1 = f1.9499999");
        says("only what was picked today comes", "good 0", "set 1 0", "4 times pick 1", "night", "of 0 1 = f4.0", "pick 1",
            "night", "of 0 1 = f1.0");
        says("each good its own", "goods 0 1 2", "set 0 0", "set 1 60", "pick 1", "pick 3", "night", "of 0 1 = f0.8",
            "of 1 1 = f0.4", "of 2 1 = 0");
    }

    private static void movesOfNights() {
        section = "Nights, moves";
        // Weights: 17 now; 15 by slots 0 and 12, 15 by slots 3 and 5; more by all others.
        says("the lowest lower slot comes before the lowest higher one", "goods 0 3 5 12", "shut but 0 3 5 12", "set 2 1",
            "set 1 0", "set 0 1", "2 times pick 1", "pick 4", "3 times pick 8", "bestSwap 0 = 0", "bestSwap 1 = 12", "night = 1",
            "of 3 0 = 0", "of 0 0 = 12", "of 2 0 = 5", "count 7 = f15.0");
        says("the second move is the other one", "goods 0 3 5 12", "shut but 0 3 5 12", "set 2 1", "set 1 0", "2 times pick 1",
            "pick 4", "3 times pick 8", "night = 2", "of 2 0 = 3", "of 1 0 = 5", "count 7 = f13.0");
        // Slots 7, 8 and 2 are 3, 4 and 3 steps away; a walk of both goods becomes longer, those of one of them shorter.
        says("all walks together, not each one", "goods 7 8", "shut but 2 7 8", "set 2 1", "set 1 0", "pick 3 = 8", "pick 2 = 8",
            "ifSwapped 2 8 = 16", "basket 0 0 2 = 8", "night = 1", "basket 1 0 2 = 10", "basket 1 1 2 = 6");
        says("the baskets of today, not those of yesterday", "goods 7 8", "shut but 2 7 8", "set 2 1", "set 1 0", "set 0 0",
            "pick 3 = 8", "night = 0", "set 1 100", "set 0 1", "night = 1", "of 1 0 = 2");
        says("a good is moved again in one night", "goods 29 28", "shut but 0 27 28 29", "set 0 9", "set 1 0", "pick 1", "pick 1",
            "pick 2", "night = 2", "of 0 0 = 0", "of 1 0 = 27", "of 0 5 = 1", "of 1 5 = 1");
        says("swaps by night are counted for both goods", "goods 0 29", "shut but 0 29", "set 1 0", "pick 2", "night = 1",
            "of 0 5 = 1", "of 1 5 = 1", "count 6 = 1", "pick 1", "night = 1", "of 0 5 = 2", "count 6 = 2");
    }

    private static void weights() {
        section = "Nights, weight";
        // Each of 1E-6 to 5E-6 is too little to be added to 213.84, but not all of them together.
        says("goods are added by numbers, as floats", "goods 29 0 1 2 3 4", "set 0 0", "set 1 0", "pick 62", "night",
            "set 1 1", "night", "night", "12 times pick 1", "night", "of 0 1 = f11.88", "of 1 1 = f1.0E-6", "count 7 = f213.84");
        says("a swap that makes a float no less is none", "goods 0 29", "set 0 0", "set 1 0", "pick 2", "night", "set 1 1",
            "3 times night", "12 times pick 1", "night", "of 1 1 = f1.0E-8", "set 0 9", "set 1 100", "count 7 = f11.88",
            "bestSwap 0 = NONE", "night = 0", "of 1 0 = 29");
        says("as the goods stand, with CROSS as it is", "goods 29 6", "set 0 0", "set 1 0", "pick 1", "pick 3", "night",
            "count 7 = f40.0", "set 2 1", "count 7 = f22.0", "swap 29 0", "count 7 = f4.0");
    }

    private static void closedSlots() {
        section = "Closed slots";
        says("its good is weighed", "good 29", "set 1 0", "close 29", "pick 1", "night = 0", "count 7 = f18.0");
        says("its good can stand badly", "goods 29 0", "set 0 0", "pick 1", "night", "close 29", "badly = 1");
        says("its good can be one that is nearer", "goods 29 0", "set 0 0", "pick 1", "night", "close 0", "badly = 1");
        says("its good is walked to", "goods 0 1", "close 0", "walk 3 = 4", "stop 3 0 = 0", "shortest 1 = 2", "pick 3 = 4",
            "ifSwapped 0 29 = 38");
        says("its good gets its speed", "goods 0 1", "set 1 0", "close 0", "pick 1", "night", "of 0 1 = f1.0", "count 9 = 0",
            "meanSpeed = d0.5");
        says("it stays closed by night and by day", "close 9", "night", "night", "ofSlot 9 2 = 1", "close 9 = 0");
        says("it takes part in swaps by hand", "goods 0 1", "close 0", "swap 0 1 = 2", "of 0 0 = 1", "ofSlot 0 2 = 1",
            "ofSlot 1 2 = 0");
    }

    private static void texts() {
        section = "Texts";
        says("g: good()", "write g17", "carryOut = 1", "of 0 0 = 17");
        says("b: pick()", "goods 3 4 5", "write b2,0", "carryOut = 1", "basket 0 0 0 = 5", "basket 0 0 1 = 12", "of 1 2 = 0");
        says("m: swap()", "goods 3 4", "write m3-4;m4-10", "carryOut = 2", "of 0 0 = 10", "of 1 0 = 3", "of 0 5 = 2",
            "count 6 = 0");
        says("x: close()", "write x3;x4;x3", "carryOut = 3", "count 8 = 16");
        says("n: night()", "good 29", "pick 1", "write n", "carryOut = 1", "of 0 0 = 0", "count 0 = 1", "count 6 = 1");
        says("one after the other", "write g29;b0;n;b0;m0-29;b0", "carryOut = 6", "basket 1 0 1 = 36", "basket 0 0 1 = 2",
            "basket 0 1 1 = 36", "count 5 = 74");
        says("up to the first one that returns an error", "write g1;g2;g1;g3;n", "carryOut = 2", "count 1 = 2", "count 0 = 0",
            "of 1 0 = 2", "undo = 0", "count 1 = 0");
        says("the fault is the first one", "write n;g05;q", "fault = 4", "wipe = 7", "write g5;m1;x", "fault = 5");
    }

    private static void whatThereIs() {
        section = "What there is";
        // 5E-16 is too little to be added to 11.88 as a double, but not five of them together.
        says("speeds are added by numbers, as doubles", "goods 0 1 2 3 4 5", "set 0 0", "set 1 0", "5 times pick 62", "night",
            "set 1 1", "7 times night", "12 times pick 1", "night", "of 1 1 = f5.0E-16", "meanSpeed = d1.9800000190734863");
        says("so far: nights, walks, swaps, unlike baskets", "goods 29", "pick 1", "night", "pick 1", "night", "count 0 = 2",
            "count 5 = 38", "count 6 = 1", "count 10 = 1", "of 0 3 = 2", "often 1 = 2");
        says("the fastest good, by its speed of now", "goods 0 1", "set 0 0", "pick 2", "count 9 = 0", "night", "count 9 = 1");
        says("the settings", "set 0 7", "set 1 8", "set 2 9", "count 11 = 7", "count 12 = 8", "count 13 = 9");
    }

    private static void whatIf() {
        section = "What if";
        says("the first swap, not the last one of the night", "goods 29 28", "pick 3", "pick 1", "bestSwap 0 = 0",
            "bestSwap 1 = 29", "night = 2", "of 0 0 = 0", "of 1 0 = 1");
        says("the walks of today anew", "goods 0 6", "pick 1 = 2", "pick 3 = 8", "swap 6 29", "ifSwapped 5 5 = 38",
            "ifSwapped 0 29 = 72", "ifSwapped 29 1 = 6", "count 3 = 10");
        says("faster than one which is nearer, whichever", "goods 5 6 29", "set 0 0", "set 1 0", "pick 4", "pick 5", "night",
            "badly = 5", "swap 6 11", "badly = 4");
    }

    private static void undoAndSaving() {
        section = "Undo, saving";
        says("what was undone is not counted", "goods 0 1", "pick 1", "undo", "pick 2", "often 1 = 0", "often 2 = 1",
            "count 10 = 1", "pick 1", "count 10 = 2", "often 1 = 1");
        says("what was restored is counted on", "goods 0 1", "pick 1", "save 0", "pick 1", "pick 2", "restore 0", "pick 2",
            "often 1 = 1", "often 2 = 1", "count 10 = 2", "undo", "count 10 = 1", "undo", "often 1 = 2", "count 10 = 2");
        says("the settings are saved and undone", "set 0 9", "set 1 100", "set 2 8", "save 0", "set 0 0", "set 1 1", "set 2 2",
            "restore 0", "count 11 = 9", "count 12 = 100", "count 13 = 8", "undo", "count 11 = 0", "count 12 = 1", "count 13 = 2",
            "undo", "count 13 = 8", "undo", "count 12 = 100", "undo", "count 11 = 9");
        says("the baskets of both days are saved", "good 0", "pick 1", "night", "pick 1", "pick 1", "save 1", "night", "night",
            "restore 1", "basket 0 1 1 = 2", "basket 1 0 0 = 1", "count 3 = 4", "count 4 = 2", "of 0 2 = 2", "count 0 = 1");
        says("one text is one change", "write g1;x2;n", "carryOut = 3", "night", "undo = 1", "count 0 = 1", "undo = 0",
            "count 0 = 0", "count 1 = 0", "count 8 = 0");
    }
}
