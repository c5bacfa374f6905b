/**
 * A file of blocks, mixes of them that are told by a number alone, and receivers who find the blocks from the mixes.
 *
 * A mix is held as one number: the bit b for its block b, and its value above these bits. So two mixes are put
 * together, their blocks and their values at once, by one XOR; and a block that is known is a mix of one block.
 */
public final class MixedBlocks {
    /** There is nothing to return. */
    public static final int NONE = -1;

    private static final int RECEIVERS = 3;
    private static final int LEAST_BLOCKS = 2;
    private static final int MOST_BLOCKS = 12;
    private static final int BLOCKS_AT_FIRST = 8;
    private static final int MOST_VALUE = 65535;
    private static final int MOST_MIX = 9999;
    private static final int MOST_WAITING = 24;
    private static final int MOST_SAVED = 6;
    private static final int MOST_CHARACTERS = 60;
    private static final int MOST_DIGITS = 4;
    /** So many mixes sendAll, helps and needs go through at most. */
    private static final int MOST_AT_ONCE = 100;
    private static final int ROW_MODULUS = 30269;
    /** Exactly as many places as the mask of a place (15) can tell. */
    private static final int[] DEGREES = {1, 1, 2, 2, 2, 2, 2, 3, 3, 3, 4, 4, 5, 6, 8, 12};
    private static final int DEGREE_PLACES = 15;
    /** Of the number that holds a mix, the bits of its blocks. */
    private static final int BLOCK_BITS = (1 << MOST_BLOCKS) - 1;

    private static final int RECEIVER_NUMBERS = 9;
    private static final int COUNTS = 6;
    private static final int DIGEST_START = 3253;
    private static final int DIGEST_MIX = 100;
    private static final int DIGEST_NEEDS_FROM = 5;

    private final State now;
    private final History history;
    private final int[] buffer;
    private int length;
    private final Part part;
    /** What would be is tried out here, so that no call has to make objects. */
    private final Receiver trial;
    private final Elimination elimination;

    public MixedBlocks() {
        now = new State();
        history = new History();
        buffer = new int[MOST_CHARACTERS];
        length = 0;
        part = new Part();
        trial = new Receiver();
        elimination = new Elimination();
    }

    // ---- the file

    public int size(int blocks) throws IllegalArgumentException {
        if (blocks < LEAST_BLOCKS || blocks > MOST_BLOCKS) {
            throw new IllegalArgumentException("a file has 2 to 12 blocks");
        }
        history.keep(now);
        int previous = now.blocks;
        now.resize(blocks);
        return previous;
    }

    public int write(int block, int value) throws IndexOutOfBoundsException, IllegalArgumentException {
        checkBlock(block);
        if (value < 0 || value > MOST_VALUE) {
            throw new IllegalArgumentException("a block is 0 to 65535");
        }
        history.keep(now);
        int previous = now.valueAt(block);
        now.change(block, value);
        return previous;
    }

    // ---- receivers

    public int listen(int receiver, boolean listens) throws IndexOutOfBoundsException {
        Receiver one = existing(receiver);
        history.keep(now);
        int previous = one.listens ? 1 : 0;
        one.listens = listens;
        return previous;
    }

    public int forget(int receiver) throws IndexOutOfBoundsException {
        Receiver one = existing(receiver);
        history.keep(now);
        int previous = one.knows();
        one.forgetAll();
        return previous;
    }

    public int send(int mix) throws IllegalArgumentException {
        checkMix(mix);
        history.keep(now);
        return now.sendOne(mix);
    }

    public int eliminate(int receiver) throws IndexOutOfBoundsException {
        Receiver one = existing(receiver);
        history.keep(now);
        return one.findTogether(elimination);
    }

    // ---- texts

    public int append(int code) throws IllegalArgumentException, IllegalStateException {
        if (code < 33 || code > 126) {
            throw new IllegalArgumentException("a character code is 33 to 126");
        }
        if (length < 0 || length >= buffer.length) {
            throw new IllegalStateException("the buffer is full");
        }
        buffer[length] = code;
        length++;
        return length;
    }

    public int clearBuffer() {
        int previous = length;
        length = 0;
        return previous;
    }

    public int firstError() {
        part.begin();
        for (int i = 0; i < length && i < buffer.length; i++) {
            if (!part.takes(buffer[i])) {
                return i;
            }
        }
        return length;
    }

    public int sendAll() throws IllegalArgumentException {
        if (!isCompleteText()) {
            throw new IllegalArgumentException("the buffer is not complete mixes as a text");
        }
        history.keep(now);
        int sent = 0;
        part.begin();
        for (int i = 0; i < length && i < buffer.length; i++) {
            if (buffer[i] == ',') {
                sent += sendPart(MOST_AT_ONCE - sent);
            }
            part.takes(buffer[i]);
        }
        sent += sendPart(MOST_AT_ONCE - sent);
        length = 0;
        return sent;
    }

    public int undo() throws IllegalStateException {
        if (!history.giveBack(now)) {
            throw new IllegalStateException("no state is saved");
        }
        return history.kept;
    }

    // ---- looks; nothing is changed

    public int mix(int mix, int what) throws IllegalArgumentException {
        checkMix(mix);
        checkWhat(what, 3);
        int whole = now.mixOf(mix);
        switch (what) {
            case 0:
                return blockCountOf(whole);
            case 1:
                return blocksOf(whole);
            default:
                return valueOf(whole);
        }
    }

    public int receiver(int receiver, int what) throws IndexOutOfBoundsException, IllegalArgumentException {
        Receiver one = existing(receiver);
        checkWhat(what, RECEIVER_NUMBERS);
        return numberOf(one, what);
    }

    public int known(int receiver, int block) throws IndexOutOfBoundsException {
        Receiver one = existing(receiver);
        checkBlock(block);
        return one.valueKnown(block);
    }

    public int waiting(int receiver, int place, int what) throws IndexOutOfBoundsException, IllegalArgumentException {
        Receiver one = existing(receiver);
        if (place < 0) {
            throw new IllegalArgumentException("a place is not below 0");
        }
        checkWhat(what, 2);
        if (place >= one.waits) {
            return NONE;
        }
        int left = one.waitingAt(place);
        return what == 0 ? blocksOf(left) : valueOf(left);
    }

    public int count(int what) throws IllegalArgumentException {
        checkWhat(what, COUNTS);
        return countOf(what);
    }

    public int block(int block) throws IndexOutOfBoundsException {
        checkBlock(block);
        return now.valueAt(block);
    }

    // ---- what would be; nothing is changed

    public int ifGot(int receiver, int mix, int what) throws IndexOutOfBoundsException, IllegalArgumentException {
        Receiver one = existing(receiver);
        checkMix(mix);
        checkWhat(what, 2);
        return what == 0 ? foundIfGot(one, mix) : rankIfGot(one, mix);
    }

    public int helps(int receiver, int from) throws IndexOutOfBoundsException, IllegalArgumentException {
        Receiver one = existing(receiver);
        checkMix(from);
        return nextHelp(one, from);
    }

    public int needs(int receiver, int from, boolean eliminates)
            throws IndexOutOfBoundsException, IllegalArgumentException {
        Receiver one = existing(receiver);
        if (from < 0 || from > MOST_MIX - MOST_AT_ONCE) {
            throw new IllegalArgumentException("the first mix is 0 to 9899");
        }
        return mixesNeeded(one, from, eliminates);
    }

    public int ifEliminated(int receiver) throws IndexOutOfBoundsException {
        return foundIfEliminated(existing(receiver));
    }

    public double use(int receiver) throws IndexOutOfBoundsException {
        return existing(receiver).share();
    }

    public long digest() {
        long hash = DIGEST_START;
        for (int what = 0; what < COUNTS; what++) {
            hash = hashed(hash, countOf(what));
        }
        for (int b = 0; b < now.blocks; b++) {
            hash = hashed(hash, now.valueAt(b));
        }
        for (int i = 0; i < RECEIVERS; i++) {
            Receiver one = now.receiverAt(i);
            if (one != null) {
                hash = hashedGuesses(hashedState(hash, one), one);
            }
        }
        hash = hashed(hash, length);
        for (int i = 0; i < length && i < buffer.length; i++) {
            hash = hashed(hash, buffer[i]);
        }
        return hash;
    }

    // ---- what the face is made of

    private Receiver existing(int receiver) {
        Receiver one = now.receiverAt(receiver);
        if (one == null) {
            throw new IndexOutOfBoundsException("no such receiver");
        }
        return one;
    }

    private void checkBlock(int block) {
        if (block < 0 || block >= now.blocks) {
            throw new IndexOutOfBoundsException("no such block");
        }
    }

    private static void checkMix(int mix) {
        if (mix < 0 || mix > MOST_MIX) {
            throw new IllegalArgumentException("a mix is 0 to 9999");
        }
    }

    private static void checkWhat(int what, int choices) {
        if (what < 0 || what >= choices) {
            throw new IllegalArgumentException("what is out of range");
        }
    }

    private static int blocksOf(int mix) {
        return mix & BLOCK_BITS;
    }

    private static int valueOf(int mix) {
        return mix >> MOST_BLOCKS;
    }

    private static int blockCountOf(int mix) {
        return Integer.bitCount(mix & BLOCK_BITS);
    }

    private static boolean holds(int mix, int block) {
        return (mix >> block & 1) == 1;
    }

    private static void copyRow(int[] from, int[] to) {
        System.arraycopy(from, 0, to, 0, Math.min(from.length, to.length));
    }

    private boolean isCompleteText() {
        return firstError() == length && part.isComplete();
    }

    private int sendPart(int most) {
        int sent = 0;
        for (int mix = part.firstMix(); mix <= part.lastMix() && sent < most; mix++) {
            now.sendOne(mix);
            sent++;
        }
        return sent;
    }

    private int numberOf(Receiver one, int what) {
        switch (what) {
            case 0:
                return one.listens ? 1 : 0;
            case 1:
                return one.knows();
            case 2:
                return one.knownBlocks;
            case 3:
                return one.waits;
            case 4:
                return one.got;
            case 5:
                return one.toldNothing;
            case 6:
                return one.lost;
            case 7:
                return now.isDone(one) ? 1 : 0;
            default:
                return one.rank(elimination);
        }
    }

    private int countOf(int what) {
        switch (what) {
            case 0:
                return now.blocks;
            case 1:
                return now.sent;
            case 2:
                return now.listening();
            case 3:
                return now.done();
            case 4:
                return now.allTogether();
            default:
                return history.kept;
        }
    }

    private int foundIfGot(Receiver one, int mix) {
        trial.become(one);
        return trial.get(now.mixOf(mix));
    }

    private int rankIfGot(Receiver one, int mix) {
        trial.become(one);
        trial.get(now.mixOf(mix));
        return trial.rank(elimination);
    }

    private int nextHelp(Receiver one, int from) {
        for (int mix = from; mix <= MOST_MIX && mix < from + MOST_AT_ONCE; mix++) {
            if (blockCountOf(one.leftOf(now.mixOf(mix))) == 1) {
                return mix;
            }
        }
        return NONE;
    }

    private int mixesNeeded(Receiver one, int from, boolean eliminates) {
        trial.become(one);
        for (int taken = 0; taken < MOST_AT_ONCE; taken++) {
            if (now.isDone(trial)) {
                return taken;
            }
            trial.get(now.mixOf(from + taken));
            if (eliminates) {
                trial.findTogether(elimination);
            }
        }
        return now.isDone(trial) ? MOST_AT_ONCE : NONE;
    }

    private int foundIfEliminated(Receiver one) {
        trial.become(one);
        return trial.findTogether(elimination);
    }

    private static long hashed(long hash, long value) {
        return 31 * hash + value;
    }

    private long hashedState(long before, Receiver one) {
        long hash = before;
        for (int what = 0; what < RECEIVER_NUMBERS; what++) {
            hash = hashed(hash, numberOf(one, what));
        }
        for (int b = 0; b < now.blocks; b++) {
            hash = hashed(hash, one.valueKnown(b));
        }
        for (int i = 0; i < one.waits; i++) {
            int left = one.waitingAt(i);
            hash = hashed(hashed(hash, blocksOf(left)), valueOf(left));
        }
        return hash;
    }

    private long hashedGuesses(long before, Receiver one) {
        long hash = hashed(before, foundIfGot(one, DIGEST_MIX));
        hash = hashed(hash, rankIfGot(one, DIGEST_MIX));
        hash = hashed(hash, nextHelp(one, 0));
        hash = hashed(hash, mixesNeeded(one, DIGEST_NEEDS_FROM, false));
        hash = hashed(hash, mixesNeeded(one, DIGEST_NEEDS_FROM, true));
        hash = hashed(hash, foundIfEliminated(one));
        return hashed(hash, bitsOf(one.share()));
    }

    /**
     * Double.doubleToLongBits for a share (0 to 1), since LANGUAGE.md does not list it. Doubling is exact, so
     * nothing is rounded; a share above 0 is far above the least number that is written with all its bits.
     */
    private static long bitsOf(double share) {
        if (share <= 0.0) {
            return 0L;
        }
        double scaled = share;
        long exponent = 1023;
        for (int i = 0; i < 1022 && scaled < 1.0; i++) {
            scaled = scaled * 2.0;
            exponent--;
        }
        return (exponent << 52) + (long) ((scaled - 1.0) * 4503599627370496.0);
    }

    /** All that undo gives back: the file, the receivers, and what is counted. */
    private static final class State {
        private int blocks;
        private final int[] values;
        private int sent;
        private final Receiver[] receivers;

        State() {
            blocks = BLOCKS_AT_FIRST;
            values = new int[MOST_BLOCKS];
            sent = 0;
            receivers = new Receiver[RECEIVERS];
            for (int i = 0; i < receivers.length; i++) {
                receivers[i] = new Receiver();
            }
        }

        void become(State other) {
            if (other == null) {
                return;
            }
            blocks = other.blocks;
            sent = other.sent;
            copyRow(other.values, values);
            for (int i = 0; i < receivers.length; i++) {
                Receiver one = receivers[i];
                if (one != null) {
                    one.become(other.receiverAt(i));
                }
            }
        }

        Receiver receiverAt(int i) {
            return i >= 0 && i < receivers.length ? receivers[i] : null;
        }

        int valueAt(int block) {
            return block >= 0 && block < values.length ? values[block] : 0;
        }

        void resize(int newBlocks) {
            blocks = newBlocks;
            for (int b = 0; b < values.length; b++) {
                if (b >= newBlocks) {
                    values[b] = 0;
                }
            }
            allForget();
        }

        void change(int block, int value) {
            if (block >= 0 && block < values.length) {
                values[block] = value;
            }
            allForget();
        }

        private void allForget() {
            for (int i = 0; i < receivers.length; i++) {
                Receiver one = receivers[i];
                if (one != null) {
                    one.forgetAll();
                }
            }
        }

        int sendOne(int number) {
            sent++;
            int whole = mixOf(number);
            int found = 0;
            for (int i = 0; i < receivers.length; i++) {
                Receiver one = receivers[i];
                if (one != null && one.listens) {
                    found += one.get(whole);
                }
            }
            return found;
        }

        int mixOf(int number) {
            int row = (number * 7919 + 17) % ROW_MODULUS;
            int degree = Math.min(DEGREES[row & DEGREE_PLACES], blocks);
            int whole = 0;
            for (int i = 0; i < degree && blocks > 0; i++) {
                row = (row * 171 + 11) % ROW_MODULUS;
                int block = firstOutside(whole, row % blocks);
                whole ^= 1 << block | valueAt(block) << MOST_BLOCKS;
            }
            return whole;
        }

        private int firstOutside(int mix, int from) {
            int block = from;
            for (int i = 0; i < blocks && holds(mix, block); i++) {
                block = block + 1 < blocks ? block + 1 : 0;
            }
            return block;
        }

        int allTogether() {
            int value = 0;
            for (int b = 0; b < blocks; b++) {
                value ^= valueAt(b);
            }
            return value;
        }

        int listening() {
            int all = 0;
            for (int i = 0; i < receivers.length; i++) {
                Receiver one = receivers[i];
                if (one != null && one.listens) {
                    all++;
                }
            }
            return all;
        }

        int done() {
            int all = 0;
            for (int i = 0; i < receivers.length; i++) {
                Receiver one = receivers[i];
                if (one != null && isDone(one)) {
                    all++;
                }
            }
            return all;
        }

        boolean isDone(Receiver one) {
            return one.knows() == blocks;
        }
    }

    private static final class Receiver {
        private boolean listens;
        private int knownBlocks;
        /** For each block the mix of it alone, 0 as long as it is not known. */
        private final int[] alone;
        /** What is left of the mixes that wait, in the order in which they came. */
        private final int[] left;
        private int waits;
        private int got;
        private int toldNothing;
        private int lost;

        Receiver() {
            alone = new int[MOST_BLOCKS];
            left = new int[MOST_WAITING];
        }

        void become(Receiver other) {
            if (other == null) {
                return;
            }
            listens = other.listens;
            knownBlocks = other.knownBlocks;
            copyRow(other.alone, alone);
            copyRow(other.left, left);
            waits = other.waits;
            got = other.got;
            toldNothing = other.toldNothing;
            lost = other.lost;
        }

        void forgetAll() {
            knownBlocks = 0;
            waits = 0;
            for (int b = 0; b < alone.length; b++) {
                alone[b] = 0;
            }
        }

        int knows() {
            return Integer.bitCount(knownBlocks);
        }

        int valueKnown(int block) {
            if (block < 0 || block >= alone.length || !holds(knownBlocks, block)) {
                return NONE;
            }
            return valueOf(alone[block]);
        }

        int waitingAt(int place) {
            return place >= 0 && place < left.length ? left[place] : 0;
        }

        int leftOf(int mix) {
            int rest = mix;
            for (int b = 0; b < alone.length; b++) {
                if (holds(rest, b)) {
                    rest ^= alone[b];
                }
            }
            return rest;
        }

        int get(int mix) {
            got++;
            int rest = leftOf(mix);
            int blocks = blockCountOf(rest);
            if (blocks < 2) {
                return peelFrom(rest);
            }
            if (waits >= 0 && waits < left.length) {
                left[waits] = rest;
                waits++;
            } else {
                lost++;
            }
            return 0;
        }

        /** Takes a mix of less than two blocks, then each waiting mix that comes to have less than two. */
        private int peelFrom(int mix) {
            int found = 0;
            int next = mix;
            for (int i = 0; i <= MOST_WAITING; i++) {
                if (blocksOf(next) == 0) {
                    toldNothing++;
                } else {
                    learn(next);
                    found++;
                }
                int place = firstShort();
                if (place == NONE) {
                    return found;
                }
                next = waitingAt(place);
                drop(place);
            }
            return found;
        }

        private void learn(int single) {
            knownBlocks |= blocksOf(single);
            for (int b = 0; b < alone.length; b++) {
                if (holds(single, b)) {
                    alone[b] = single;
                }
            }
            for (int i = 0; i < waits && i < left.length; i++) {
                if (blocksOf(left[i] & single) != 0) {
                    left[i] ^= single;
                }
            }
        }

        private int firstShort() {
            for (int i = 0; i < waits && i < left.length; i++) {
                if (blockCountOf(left[i]) < 2) {
                    return i;
                }
            }
            return NONE;
        }

        private void drop(int place) {
            for (int i = place; i >= 0 && i + 1 < waits && i + 1 < left.length; i++) {
                left[i] = left[i + 1];
            }
            waits--;
        }

        int rank(Elimination elimination) {
            lookTogether(elimination);
            return knows() + elimination.rows;
        }

        int findTogether(Elimination elimination) {
            lookTogether(elimination);
            int found = 0;
            for (int b = 0; b < MOST_BLOCKS; b++) {
                // what peeling behind a lower block has found is known already
                if (elimination.tells(b) && !holds(knownBlocks, b)) {
                    found += peelFrom(elimination.rowOf(b));
                }
            }
            return found;
        }

        private void lookTogether(Elimination elimination) {
            elimination.begin();
            for (int i = 0; i < waits && i < left.length; i++) {
                elimination.add(left[i]);
            }
        }

        double share() {
            if (got <= 0) {
                return 1.0;
            }
            return (double) (got - toldNothing - lost) / (double) got;
        }
    }

    /**
     * What mixes tell together. Each row leads with a block that no other row has: so a block that any set of the
     * mixes tells alone stands in a row of its own.
     */
    private static final class Elimination {
        /** The row that leads with the block b stands at b; 0 is no row. */
        private final int[] leading;
        private int rows;

        Elimination() {
            leading = new int[MOST_BLOCKS];
            rows = 0;
        }

        void begin() {
            rows = 0;
            for (int b = 0; b < leading.length; b++) {
                leading[b] = 0;
            }
        }

        void add(int mix) {
            int rest = mix;
            for (int b = 0; b < leading.length; b++) {
                if (holds(rest, b)) {
                    rest ^= leading[b];
                }
            }
            if (blocksOf(rest) == 0) {
                return;
            }
            int block = lowestOf(rest);
            for (int b = 0; b < leading.length; b++) {
                if (holds(leading[b], block)) {
                    leading[b] ^= rest;
                }
            }
            if (block >= 0 && block < leading.length) {
                leading[block] = rest;
                rows++;
            }
        }

        private static int lowestOf(int row) {
            return Integer.bitCount((row & -row) - 1);
        }

        int rowOf(int block) {
            return block >= 0 && block < leading.length ? leading[block] : 0;
        }

        boolean tells(int block) {
            return blocksOf(rowOf(block)) == 1 << block;
        }
    }

    /** The states that are saved, in a ring. */
    private static final class History {
        private final State[] ring;
        private int oldest;
        private int kept;

        History() {
            ring = new State[MOST_SAVED];
            for (int i = 0; i < ring.length; i++) {
                ring[i] = new State();
            }
            oldest = 0;
            kept = 0;
        }

        void keep(State state) {
            // when all are in use, this one is the oldest
            State room = stateAt(kept);
            if (room != null) {
                room.become(state);
            }
            if (kept < MOST_SAVED) {
                kept++;
            } else {
                oldest = (oldest + 1) % MOST_SAVED;
            }
        }

        /** Answers false if there is none. */
        boolean giveBack(State state) {
            if (kept <= 0) {
                return false;
            }
            kept--;
            state.become(stateAt(kept));
            return true;
        }

        private State stateAt(int place) {
            int i = (oldest + place) % MOST_SAVED;
            return i >= 0 && i < ring.length ? ring[i] : null;
        }
    }

    /** One part of mixes as a text, as far as it is read: a number, or the first number, "-" and a second one. */
    private static final class Part {
        /** NONE as long as "-" has not come. */
        private int first;
        private int number;
        private int digits;

        Part() {
            first = NONE;
            number = 0;
            digits = 0;
        }

        void begin() {
            first = NONE;
            startNumber();
        }

        private void startNumber() {
            number = 0;
            digits = 0;
        }

        /** Answers false, and takes nothing, if this character is a syntax error. */
        boolean takes(int code) {
            if (code >= '0' && code <= '9') {
                return takesDigit(code - '0');
            }
            if (code == '-' && digits > 0 && first == NONE) {
                first = number;
                startNumber();
                return true;
            }
            if (code == ',' && isComplete()) {
                begin();
                return true;
            }
            return false;
        }

        private boolean takesDigit(int digit) {
            boolean leadingZero = digits > 0 && number == 0;
            int longer = number * 10 + digit;
            if (leadingZero || digits >= MOST_DIGITS || greatest(longer, digits + 1) < first) {
                return false;
            }
            number = longer;
            digits++;
            return true;
        }

        /** The greatest number that a text with these digits ahead can be: a second number must reach the first. */
        private static int greatest(int begun, int digitsSoFar) {
            int most = begun;
            for (int i = digitsSoFar; i < MOST_DIGITS && begun > 0; i++) {
                most = most * 10 + 9;
            }
            return most;
        }

        boolean isComplete() {
            return digits > 0 && number >= first;
        }

        int firstMix() {
            return first == NONE ? number : first;
        }

        int lastMix() {
            return number;
        }
    }
}
