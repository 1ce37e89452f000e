/** Shelf slots of a mail order shed, by speed of sale and picker walks. */
public final class ShelfSlots {
    public static final int NO_SUCH = -1, BAD_VALUE = -2, BAD_TEXT = -3, TOO_MANY = -4, NOT_POSSIBLE = -5, NONE = -6;
    public static final int MOVES = 0, FORGET = 1, CROSS = 2;

    private static final int SETTINGS = 3;
    private static final int SLOTS = 30;
    private static final int AISLES = 5;
    private static final int PLACES = 6;
    private static final int GOODS = 16;
    private static final int BASKET_GOODS = 6;
    private static final int DAY_BASKETS = 12;
    private static final int NIGHTS = 9999;
    private static final int PAD_SIGNS = 80;
    private static final int PUT_SIGNS = 8;
    private static final int UNDOS = 6;
    private static final int SAVES = 2;
    private static final int FINE = 0;
    // Each pick needs a call of its own or three characters of a text: 512 calls can't pick so often.
    private static final int PICKS = 2000;

    private final Shed now;
    private final Shed trial;
    private final Walker walker;
    private final Mover mover;
    private final Pad pad;
    private final History history;
    private final Shed[] saved;
    private final boolean[] wasSaved;

    public ShelfSlots() {
        now = new Shed();
        trial = new Shed();
        walker = new Walker();
        mover = new Mover(walker);
        pad = new Pad();
        history = new History();
        saved = new Shed[SAVES];
        for (int slot = 0; slot < SAVES; slot++) {
            saved[slot] = new Shed();
        }
        wasSaved = new boolean[SAVES];
    }

    // ---- changes

    public int set(int setting, int value) {
        history.note(now);
        return recorded(now.changeSetting(setting, value));
    }

    public int good(int slot) {
        history.note(now);
        return recorded(now.bringGood(slot));
    }

    public int swap(int slot, int other) {
        history.note(now);
        return recorded(now.swapByHand(slot, other));
    }

    public int close(int slot) {
        history.note(now);
        return recorded(now.closeOrOpen(slot));
    }

    public int pick(int basket) {
        history.note(now);
        return recorded(pickBasket(basket));
    }

    public int night() {
        history.note(now);
        return recorded(mover.passNight(now));
    }

    // ---- what there is

    public int of(int good, int what) {
        if (good < 0 || good >= now.goods) {
            return NO_SUCH;
        }
        switch (what) {
            case 0: return now.slotOf[good];
            case 1: return Bits.ofFloat(now.speed[good]);
            case 2: return now.pickedToday[good];
            case 3: return now.pickedSoFar[good];
            case 4: return now.deskSteps(now.slotOf[good]);
            case 5: return now.swapped[good];
            default: return BAD_VALUE;
        }
    }

    public int ofSlot(int slot, int what) {
        if (!Shed.isSlot(slot)) {
            return NO_SUCH;
        }
        switch (what) {
            case 0: return now.goodIn[slot];
            case 1: return now.deskSteps(slot);
            case 2: return now.isClosed(slot) ? 1 : 0;
            default: return BAD_VALUE;
        }
    }

    public int steps(int slot, int other) {
        if (!Shed.isSlot(slot) || !Shed.isSlot(other)) {
            return NO_SUCH;
        }
        return now.stepsBetween(slot, other);
    }

    public int basket(int day, int rank, int what) {
        if (day != 0 && day != 1) {
            return NO_SUCH;
        }
        Day asked = day == 0 ? now.today : now.yesterday;
        if (rank < 0 || rank >= asked.many) {
            return NO_SUCH;
        }
        switch (what) {
            case 0: return asked.baskets[rank];
            case 1: return asked.lengths[rank];
            case 2: return walker.lengthOf(now, asked.baskets[rank]);
            default: return BAD_VALUE;
        }
    }

    public int often(int basket) {
        int error = errorOfBasket(basket);
        return error != FINE ? error : now.timesPicked(basket);
    }

    public int count(int what) {
        switch (what) {
            case 0: return now.nights;
            case 1: return now.goods;
            case 2: return now.today.many;
            case 3: return now.today.together();
            case 4: return now.yesterday.together();
            case 5: return now.walksSoFar;
            case 6: return now.nightSwaps;
            case 7: return Bits.ofFloat(now.weight());
            case 8: return now.closed;
            case 9: return now.fastest();
            case 10: return now.unlikeBaskets();
            case 11: return now.settings[MOVES];
            case 12: return now.settings[FORGET];
            case 13: return now.settings[CROSS];
            case 14: return pad.length;
            case 15: return history.kept;
            default: return BAD_VALUE;
        }
    }

    public long meanSpeed() {
        return Bits.ofDouble(now.mean());
    }

    // ---- what if; nothing changes

    public int walk(int basket) {
        int error = errorOfBasket(basket);
        return error != FINE ? error : walker.lengthOf(now, basket);
    }

    public int stop(int basket, int rank) {
        int error = errorOfBasket(basket);
        if (error != FINE) {
            return error;
        }
        walker.lengthOf(now, basket);
        return walker.goodAt(rank);
    }

    public int shortest(int basket) {
        int error = errorOfBasket(basket);
        return error != FINE ? error : walker.shortestOf(now, basket);
    }

    public int bestSwap(int what) {
        if (what != 0 && what != 1) {
            return BAD_VALUE;
        }
        trial.copyFrom(now);
        trial.ageSpeeds();
        mover.findSwap(trial);
        return what == 0 ? mover.lower : mover.higher;
    }

    public int ifSwapped(int slot, int other) {
        if (!Shed.isSlot(slot) || !Shed.isSlot(other)) {
            return NO_SUCH;
        }
        trial.copyFrom(now);
        trial.exchange(slot, other);
        return walker.togetherOf(trial);
    }

    public int badly() {
        int set = 0;
        for (int good = 0; good < now.goods; good++) {
            if (now.standsBadly(good)) {
                set |= 1 << good;
            }
        }
        return set;
    }

    // ---- texts

    public int put(long characters) {
        return pad.append(characters);
    }

    public int wipe() {
        return pad.empty();
    }

    public int fault() {
        return pad.firstFault();
    }

    public int carryOut() {
        if (pad.firstFault() != NONE) {
            return BAD_TEXT;
        }
        history.note(now);
        pad.rewind();
        int done = 0;
        boolean more = true;
        while (more && done < PAD_SIGNS && carryOutOrder() >= 0) {
            done++;
            more = pad.passes(';');
        }
        pad.empty();
        return recorded(done);
    }

    // ---- undo, saving

    public int undo() {
        return history.kept == 0 ? NOT_POSSIBLE : history.takeBack(now);
    }

    public int save(int slot) {
        if (slot < 0 || slot >= SAVES) {
            return BAD_VALUE;
        }
        saved[slot].copyFrom(now);
        wasSaved[slot] = true;
        return now.goods;
    }

    public int restore(int slot) {
        if (slot < 0 || slot >= SAVES) {
            return BAD_VALUE;
        }
        if (!wasSaved[slot]) {
            return NOT_POSSIBLE;
        }
        history.note(now);
        now.copyFrom(saved[slot]);
        return recorded(now.goods);
    }

    // ---- behind the face

    /** Keeps what was noted before a change, unless the change answers with an error. */
    private int recorded(int answer) {
        if (answer >= 0) {
            history.keepNote();
        }
        return answer;
    }

    private int errorOfBasket(int basket) {
        if (basket >> now.goods != 0) {
            return NO_SUCH;
        }
        int many = Integer.bitCount(basket);
        return many < 1 || many > BASKET_GOODS ? BAD_VALUE : FINE;
    }

    private int pickBasket(int basket) {
        int error = errorOfBasket(basket);
        if (error != FINE) {
            return error;
        }
        if (now.today.many >= DAY_BASKETS) {
            return TOO_MANY;
        }
        int length = walker.lengthOf(now, basket);
        now.notePicked(basket, length);
        return length;
    }

    private int carryOutOrder() {
        int letter = pad.takeLetter();
        switch (letter) {
            case 'g':
                return now.bringGood(pad.takeNumber());
            case 'b':
                return pickBasket(pad.takeBasket());
            case 'm':
                int slot = pad.takeNumber();
                pad.passes('-');
                return now.swapByHand(slot, pad.takeNumber());
            case 'x':
                return now.closeOrOpen(pad.takeNumber());
            default:
                return mover.passNight(now);
        }
    }

    /** Everything that undo and the saved states bring back. */
    private static final class Shed {
        final int[] settings = new int[SETTINGS];
        final int[] slotOf = new int[GOODS];
        final int[] goodIn = new int[SLOTS];
        final float[] speed = new float[GOODS];
        final int[] pickedToday = new int[GOODS];
        final int[] pickedSoFar = new int[GOODS];
        final int[] swapped = new int[GOODS];
        final Day today = new Day();
        final Day yesterday = new Day();
        Picked lastPicked;
        int picks;
        int goods;
        int closed;
        int nights;
        int walksSoFar;
        int nightSwaps;

        Shed() {
            settings[MOVES] = 2;
            settings[FORGET] = 75;
            settings[CROSS] = 3;
            for (int slot = 0; slot < SLOTS; slot++) {
                goodIn[slot] = NONE;
            }
        }

        void copyFrom(Shed other) {
            System.arraycopy(other.settings, 0, settings, 0, SETTINGS);
            System.arraycopy(other.slotOf, 0, slotOf, 0, GOODS);
            System.arraycopy(other.goodIn, 0, goodIn, 0, SLOTS);
            System.arraycopy(other.speed, 0, speed, 0, GOODS);
            System.arraycopy(other.pickedToday, 0, pickedToday, 0, GOODS);
            System.arraycopy(other.pickedSoFar, 0, pickedSoFar, 0, GOODS);
            System.arraycopy(other.swapped, 0, swapped, 0, GOODS);
            today.copyFrom(other.today);
            yesterday.copyFrom(other.yesterday);
            lastPicked = other.lastPicked;
            picks = other.picks;
            goods = other.goods;
            closed = other.closed;
            nights = other.nights;
            walksSoFar = other.walksSoFar;
            nightSwaps = other.nightSwaps;
        }

        static boolean isSlot(int slot) {
            return slot >= 0 && slot < SLOTS;
        }

        boolean isClosed(int slot) {
            return (closed >> slot & 1) != 0;
        }

        int changeSetting(int setting, int value) {
            if (setting < 0 || setting >= SETTINGS) {
                return BAD_VALUE;
            }
            int least = setting == CROSS ? 1 : 0;
            int most = setting == FORGET ? 100 : 9;
            if (value < least || value > most) {
                return BAD_VALUE;
            }
            int before = settings[setting];
            settings[setting] = value;
            return before;
        }

        int bringGood(int slot) {
            if (!isSlot(slot)) {
                return NO_SUCH;
            }
            if (goodIn[slot] != NONE) {
                return NOT_POSSIBLE;
            }
            if (goods >= GOODS) {
                return TOO_MANY;
            }
            int good = goods;
            slotOf[good] = slot;
            goodIn[slot] = good;
            goods++;
            return good;
        }

        int swapByHand(int slot, int other) {
            if (!isSlot(slot) || !isSlot(other)) {
                return NO_SUCH;
            }
            return slot == other ? BAD_VALUE : swapCounted(slot, other);
        }

        int closeOrOpen(int slot) {
            if (!isSlot(slot)) {
                return NO_SUCH;
            }
            closed ^= 1 << slot;
            return isClosed(slot) ? 1 : 0;
        }

        int swapCounted(int slot, int other) {
            exchange(slot, other);
            return countSwap(goodIn[slot]) + countSwap(goodIn[other]);
        }

        private int countSwap(int good) {
            if (good < 0 || good >= goods) {
                return 0;
            }
            swapped[good]++;
            return 1;
        }

        void exchange(int slot, int other) {
            int good = goodIn[slot];
            stand(goodIn[other], slot);
            stand(good, other);
        }

        private void stand(int good, int slot) {
            goodIn[slot] = good;
            if (good >= 0 && good < GOODS) {
                slotOf[good] = slot;
            }
        }

        boolean mayMoveByNight(int slot, int other) {
            boolean hasGood = goodIn[slot] != NONE || goodIn[other] != NONE;
            return hasGood && !isClosed(slot) && !isClosed(other);
        }

        int stepsBetween(int slot, int other) {
            int aisles = slot / PLACES - other / PLACES;
            if (aisles == 0) {
                return slot < other ? other - slot : slot - other;
            }
            return slot % PLACES + other % PLACES + settings[CROSS] * (aisles < 0 ? -aisles : aisles);
        }

        int deskSteps(int slot) {
            return 1 + slot % PLACES + settings[CROSS] * (slot / PLACES);
        }

        float weight() {
            float sum = 0.0f;
            for (int good = 0; good < goods; good++) {
                sum = sum + speed[good] * (float) deskSteps(slotOf[good]);
            }
            return sum;
        }

        double mean() {
            if (goods == 0) {
                return 0.0;
            }
            double sum = 0.0;
            for (int good = 0; good < goods; good++) {
                sum = sum + (double) speed[good];
            }
            return sum / (double) goods;
        }

        int fastest() {
            int best = goods == 0 ? NONE : 0;
            for (int good = 1; good < goods; good++) {
                if (speed[good] > speed[best]) {
                    best = good;
                }
            }
            return best;
        }

        boolean standsBadly(int good) {
            int away = deskSteps(slotOf[good]);
            for (int other = 0; other < goods; other++) {
                if (speed[good] > speed[other] && deskSteps(slotOf[other]) < away) {
                    return true;
                }
            }
            return false;
        }

        void notePicked(int basket, int length) {
            if (picks < PICKS) {
                lastPicked = new Picked(basket, timesPicked(basket) + 1, unlikeBaskets(), lastPicked);
                picks++;
            }
            today.add(basket, length);
            walksSoFar += length;
            for (int good = 0; good < goods; good++) {
                int more = basket >> good & 1;
                pickedToday[good] += more;
                pickedSoFar[good] += more;
            }
        }

        int timesPicked(int basket) {
            for (Picked picked = lastPicked; picked != null; picked = picked.before) {
                if (picked.basket == basket) {
                    return picked.times;
                }
            }
            return 0;
        }

        int unlikeBaskets() {
            return lastPicked == null ? 0 : lastPicked.unlike;
        }

        void ageSpeeds() {
            float stays = (float) settings[FORGET];
            float comes = (float) (100 - settings[FORGET]);
            for (int good = 0; good < goods; good++) {
                speed[good] = speed[good] * stays / 100.0f + (float) pickedToday[good] * comes / 100.0f;
            }
        }

        void endDay() {
            yesterday.copyFrom(today);
            today.many = 0;
            for (int good = 0; good < goods; good++) {
                pickedToday[good] = 0;
            }
            nights++;
        }
    }

    /** The baskets of one day, with their walks as they were when they were picked. */
    private static final class Day {
        final int[] baskets = new int[DAY_BASKETS];
        final int[] lengths = new int[DAY_BASKETS];
        int many;

        void copyFrom(Day other) {
            System.arraycopy(other.baskets, 0, baskets, 0, DAY_BASKETS);
            System.arraycopy(other.lengths, 0, lengths, 0, DAY_BASKETS);
            many = other.many;
        }

        void add(int basket, int length) {
            if (many < DAY_BASKETS) {
                baskets[many] = basket;
                lengths[many] = length;
                many++;
            }
        }

        int together() {
            int sum = 0;
            for (int rank = 0; rank < many; rank++) {
                sum += lengths[rank];
            }
            return sum;
        }
    }

    /** One basket that was picked: a chain, so that the states share their past and need no copies of it. */
    private static final class Picked {
        final int basket;
        final int times;
        final int unlike;
        final Picked before;

        Picked(int basket, int times, int unlikeBefore, Picked before) {
            this.basket = basket;
            this.times = times;
            this.unlike = times == 1 ? unlikeBefore + 1 : unlikeBefore;
            this.before = before;
        }
    }

    /** Walks baskets; its rows are used again for each walk. */
    private static final class Walker {
        private static final int FAR = 1000000;
        private final int[] stops = new int[BASKET_GOODS];
        private int many;

        /** The desk is one step before the slot 0, so what is nearest to that slot is nearest to the desk. */
        int lengthOf(Shed shed, int basket) {
            listGoods(basket);
            int length = 1;
            int at = 0;
            for (int rank = 0; rank < many; rank++) {
                int nearest = rank;
                int least = FAR;
                for (int left = rank; left < many; left++) {
                    int steps = shed.stepsBetween(at, shed.slotOf[stops[left]]);
                    if (steps < least) {
                        least = steps;
                        nearest = left;
                    }
                }
                moveUp(nearest, rank);
                at = shed.slotOf[stops[rank]];
                length += least;
            }
            return length + shed.deskSteps(at);
        }

        /** The good at which the walk that was walked last came by then. */
        int goodAt(int rank) {
            return rank < 0 || rank >= many ? NONE : stops[rank];
        }

        int togetherOf(Shed shed) {
            int sum = 0;
            for (int rank = 0; rank < shed.today.many; rank++) {
                sum += lengthOf(shed, shed.today.baskets[rank]);
            }
            return sum;
        }

        private void listGoods(int basket) {
            many = 0;
            for (int good = 0; good < GOODS; good++) {
                if ((basket >> good & 1) != 0 && many < BASKET_GOODS) {
                    stops[many] = good;
                    many++;
                }
            }
        }

        /** Shifts those between, so that the goods that are left stay in the order of their numbers. */
        private void moveUp(int from, int to) {
            int good = stops[from];
            for (int rank = from; rank > to; rank--) {
                stops[rank] = stops[rank - 1];
            }
            stops[to] = good;
        }

        /**
         * The way in front of the aisles and the aisles off it part, but never meet again: a walk takes each bit of
         * way that leads to one of its goods there and back at least, and no more, if it goes aisle by aisle.
         */
        int shortestOf(Shed shed, int basket) {
            listGoods(basket);
            int there = 1;
            int lastAisle = 0;
            for (int aisle = 0; aisle < AISLES; aisle++) {
                int place = lastPlace(shed, aisle);
                if (place != NONE) {
                    there += place;
                    lastAisle = aisle;
                }
            }
            return 2 * (there + shed.settings[CROSS] * lastAisle);
        }

        private int lastPlace(Shed shed, int aisle) {
            int last = NONE;
            for (int rank = 0; rank < many; rank++) {
                int slot = shed.slotOf[stops[rank]];
                if (slot / PLACES == aisle) {
                    last = Math.max(last, slot % PLACES);
                }
            }
            return last;
        }
    }

    /** Moves goods by night. */
    private static final class Mover {
        private final Walker walker;
        int lower;
        int higher;

        Mover(Walker walker) {
            this.walker = walker;
        }

        int passNight(Shed shed) {
            if (shed.nights >= NIGHTS) {
                return NOT_POSSIBLE;
            }
            shed.ageSpeeds();
            int done = 0;
            while (done < shed.settings[MOVES] && findSwap(shed)) {
                shed.swapCounted(lower, higher);
                done++;
            }
            shed.nightSwaps += done;
            shed.endDay();
            return done;
        }

        /** Tries each swap on the shed and takes it back; the weight is looked at first, as it is cheaper. */
        boolean findSwap(Shed shed) {
            lower = NONE;
            higher = NONE;
            float least = shed.weight();
            int longest = walker.togetherOf(shed);
            for (int slot = 0; slot < SLOTS; slot++) {
                for (int other = slot + 1; other < SLOTS; other++) {
                    if (!shed.mayMoveByNight(slot, other)) {
                        continue;
                    }
                    shed.exchange(slot, other);
                    float weight = shed.weight();
                    if (weight < least && walker.togetherOf(shed) <= longest) {
                        least = weight;
                        lower = slot;
                        higher = other;
                    }
                    shed.exchange(slot, other);
                }
            }
            return lower != NONE;
        }
    }

    /** The text of orders. */
    private static final class Pad {
        private final char[] signs = new char[PAD_SIGNS];
        private final Grammar grammar = new Grammar();
        private int at;
        int length;

        int append(long characters) {
            int many = 0;
            long rest = characters;
            while (many < PUT_SIGNS && (rest & 255) != 0) {
                int code = (int) (rest & 255);
                if (code < 33 || code > 126) {
                    return BAD_VALUE;
                }
                rest >>>= 8;
                many++;
            }
            if (many == 0 || rest != 0) {
                return BAD_VALUE;
            }
            if (length + many > PAD_SIGNS) {
                return TOO_MANY;
            }
            for (int sign = many - 1; sign >= 0; sign--) {
                signs[length] = (char) (characters >>> 8 * sign & 255);
                length++;
            }
            return length;
        }

        int empty() {
            int before = length;
            length = 0;
            return before;
        }

        int firstFault() {
            grammar.startAnew();
            for (int index = 0; index < length; index++) {
                if (!grammar.takes(signs[index])) {
                    return index;
                }
            }
            return grammar.mayStop() ? NONE : length;
        }

        void rewind() {
            at = 0;
        }

        char takeLetter() {
            if (at >= length) {
                return ' ';
            }
            char letter = signs[at];
            at++;
            return letter;
        }

        int takeNumber() {
            int number = 0;
            while (at < length && Grammar.isDigit(signs[at])) {
                number = number * 10 + (signs[at] - '0');
                at++;
            }
            return number;
        }

        /** Each number that no good can have is told by the bit above the goods. */
        int takeBasket() {
            int basket = 0;
            boolean more = true;
            for (int told = 0; more && told < PAD_SIGNS; told++) {
                basket |= 1 << Math.min(takeNumber(), GOODS);
                more = passes(',');
            }
            return basket;
        }

        boolean passes(char mark) {
            boolean there = at < length && signs[at] == mark;
            if (there) {
                at++;
            }
            return there;
        }
    }

    /** Tells of one character after the other whether it can stand at its place. */
    private static final class Grammar {
        private static final int ORDER = 0, FIRST_DIGIT = 1, SECOND_DIGIT = 2, MARK = 3;
        // No pad holds a space, so it stands for: no mark leads to another number.
        private static final char NO_MARK = ' ';
        private int due;
        private char numberMark;
        private boolean mayEnd;

        static boolean isDigit(char sign) {
            return sign >= '0' && sign <= '9';
        }

        void startAnew() {
            due = ORDER;
        }

        boolean mayStop() {
            return mayEnd && (due == SECOND_DIGIT || due == MARK);
        }

        boolean takes(char sign) {
            switch (due) {
                case ORDER:
                    return takesLetter(sign);
                case FIRST_DIGIT:
                    due = sign == '0' ? MARK : SECOND_DIGIT;
                    return isDigit(sign);
                case SECOND_DIGIT:
                    due = MARK;
                    return isDigit(sign) || takesMark(sign);
                default:
                    return takesMark(sign);
            }
        }

        private boolean takesLetter(char sign) {
            numberMark = sign == 'b' ? ',' : sign == 'm' ? '-' : NO_MARK;
            mayEnd = sign != 'm';
            due = sign == 'n' ? MARK : FIRST_DIGIT;
            return sign == 'g' || sign == 'b' || sign == 'm' || sign == 'x' || sign == 'n';
        }

        private boolean takesMark(char sign) {
            if (sign == ';' && mayEnd) {
                due = ORDER;
                return true;
            }
            if (sign != numberMark) {
                return false;
            }
            if (sign == '-') {
                numberMark = NO_MARK;
                mayEnd = true;
            }
            due = FIRST_DIGIT;
            return true;
        }
    }

    /** The states before the latest changes: a ring with one more row, for the change that is on its way. */
    private static final class History {
        private static final int ROWS = UNDOS + 1;
        private final Shed[] rows = new Shed[ROWS];
        private int next;
        int kept;

        History() {
            for (int row = 0; row < ROWS; row++) {
                rows[row] = new Shed();
            }
        }

        void note(Shed shed) {
            rows[next].copyFrom(shed);
        }

        void keepNote() {
            next = (next + 1) % ROWS;
            kept = Math.min(kept + 1, UNDOS);
        }

        int takeBack(Shed shed) {
            if (kept > 0) {
                next = (next + ROWS - 1) % ROWS;
                kept--;
                shed.copyFrom(rows[next]);
            }
            return kept;
        }
    }

    /** The bits of numbers that are not below 0, told by arithmetic alone. */
    private static final class Bits {
        private static final int MOST_DOUBLINGS = 1100;

        static int ofFloat(float value) {
            if (!(value > 0.0f)) {
                return 0;
            }
            int exponent = exponentOf((double) value);
            int digits = (int) (scaled((double) value, exponent) * 8388608.0);
            // Below the least exponent, a float holds fewer digits and not the leading one.
            if (exponent < -126) {
                return digits >> Math.min(-126 - exponent, 31);
            }
            return (exponent + 127 << 23) + (digits - 8388608);
        }

        /** No mean of floats is so small that a double would hold fewer digits of it. */
        static long ofDouble(double value) {
            if (!(value > 0.0)) {
                return 0L;
            }
            int exponent = exponentOf(value);
            long digits = (long) (scaled(value, exponent) * 4503599627370496.0);
            return ((long) (exponent + 1023) << 52) + (digits - 4503599627370496L);
        }

        private static int exponentOf(double value) {
            double rest = value;
            int exponent = 0;
            while (rest >= 2.0 && exponent < MOST_DOUBLINGS) {
                rest = rest / 2.0;
                exponent++;
            }
            while (rest < 1.0 && exponent > -MOST_DOUBLINGS) {
                rest = rest * 2.0;
                exponent--;
            }
            return exponent;
        }

        private static double scaled(double value, int exponent) {
            double result = value;
            for (int step = 0; step < exponent; step++) {
                result = result / 2.0;
            }
            for (int step = 0; step > exponent; step--) {
                result = result * 2.0;
            }
            return result;
        }
    }
}
