/** Sets of numbers kept as gaps; ../shared/DOC.md says what each call answers and changes. */
public final class GapSets {
    public static final int NONE = -1;

    private static final int SETS = 4;
    private static final int FULL = 60;
    private static final int GREATEST = 9999;
    private static final int CHARACTERS = 60;
    private static final int STATES = 6;
    private static final int DIGITS = 4;

    private static final int SETTINGS = 2;
    private static final int MOST = 0;
    private static final int WIDTH = 1;
    private static final int MOST_LOW = 2;
    private static final int MOST_HIGH = 16;

    private static final int HEAD_BYTES = 3;
    private static final int PLAIN_BYTES = 2;
    private static final int WIDE_FROM = 128;

    private static final int COMMON = 0;
    private static final int FIRST_LEAPS = 1;
    private static final int SECOND_LEAPS = 2;

    private final State now;
    private final History history;
    private final Buffer buffer;
    private final Parser parser;
    private final Blocks blocks;
    private final Meeting meeting;
    // Rows for sets that do not stand: two sets joined, one number more or less, all gaps.
    private final Members trial;
    private final Members widths;

    /** Creates empty sets, with an empty buffer. */
    public GapSets() {
        now = new State();
        history = new History();
        buffer = new Buffer();
        parser = new Parser();
        blocks = new Blocks();
        meeting = new Meeting();
        trial = new Members(2 * FULL);
        widths = new Members(SETS * FULL + 1);
    }

    // ---- members

    /** Adds a number to a set: 1 if it was not a member, otherwise 0. */
    public int add(int set, int number)
            throws IndexOutOfBoundsException, IllegalArgumentException, IllegalStateException {
        requireSet(set);
        requireNumber(number);
        Members members = now.members(set);
        boolean isNew = !members.holds(number);
        requireState(!isNew || members.amount() < FULL);
        history.save(now);
        members.put(number);
        return isNew ? 1 : 0;
    }

    /** Removes a number from a set: 1 if it was a member, otherwise 0. */
    public int remove(int set, int number)
            throws IndexOutOfBoundsException, IllegalArgumentException {
        requireSet(set);
        requireNumber(number);
        history.save(now);
        return now.members(set).cutOut(number, number);
    }

    /** Removes all numbers of a range from a set, and returns how many members these are. */
    public int removeRange(int set, int from, int to)
            throws IndexOutOfBoundsException, IllegalArgumentException {
        requireSet(set);
        requireNumber(from);
        requireNumber(to);
        requireArgument(from <= to);
        history.save(now);
        return now.members(set).cutOut(from, to);
    }

    /** Moves all members of a set by the same number, and returns the least one then. */
    public int shift(int set, int by)
            throws IndexOutOfBoundsException, IllegalArgumentException, IllegalStateException {
        requireSet(set);
        requireArgument(by >= -GREATEST && by <= GREATEST);
        Members members = now.members(set);
        requireState(members.isEmpty()
                || members.least() + by >= 0 && members.greatest() + by <= GREATEST);
        history.save(now);
        members.moveBy(by);
        return members.least();
    }

    /** Makes a set of two sets, and returns how many members it has then. */
    public int combine(int to, int one, int other, int how)
            throws IndexOutOfBoundsException, IllegalArgumentException, IllegalStateException {
        requireSet(to);
        requireSet(one);
        requireSet(other);
        requireArgument(how >= 0 && how <= 3);
        // The set that changes may be one of the two, so the new one is made aside.
        joinInto(trial, now.members(one), now.members(other), how);
        requireState(trial.amount() <= FULL);
        history.save(now);
        now.members(to).copyFrom(trial);
        return trial.amount();
    }

    /** Changes a setting, and returns its previous value. */
    public int set(int setting, int value)
            throws IndexOutOfBoundsException, IllegalArgumentException {
        requireSetting(setting);
        requireArgument(setting == MOST ? isMost(value) : isWidth(value));
        history.save(now);
        int before = now.valueOf(setting);
        now.change(setting, value);
        return before;
    }

    // ---- texts

    /** Appends a character to the buffer, and returns its new length. */
    public int append(int code) throws IllegalArgumentException, IllegalStateException {
        requireArgument(code >= 33 && code <= 126);
        requireState(buffer.length() < CHARACTERS);
        buffer.put(code);
        return buffer.length();
    }

    /** Clears the buffer, and returns the length that it had. */
    public int clearBuffer() {
        int length = buffer.length();
        buffer.empty();
        return length;
    }

    /** The index of the first character that is a syntax error, or the buffer's length. */
    public int firstError() {
        return parser.parse(buffer);
    }

    /** Makes a set the one in the buffer, clears the buffer, and returns how many members it has. */
    public int read(int set)
            throws IndexOutOfBoundsException, IllegalArgumentException, IllegalStateException {
        requireSet(set);
        requireArgument(parser.parsesWhole(buffer));
        int amount = parser.amount();
        requireState(amount <= FULL);
        history.save(now);
        parser.fill(now.members(set));
        buffer.empty();
        return amount;
    }

    /** Restores the latest saved state, drops it, and returns how many are left. */
    public int undo() throws IllegalStateException {
        requireState(history.amount() > 0);
        history.restore(now);
        return history.amount();
    }

    // ---- looks; nothing is changed

    /** Tells whether a number is a member: 1 if it is, otherwise 0. */
    public int has(int set, int number)
            throws IndexOutOfBoundsException, IllegalArgumentException {
        requireSet(set);
        requireNumber(number);
        return now.members(set).holds(number) ? 1 : 0;
    }

    /** The member at a place, NONE if there are not so many. */
    public int member(int set, int place)
            throws IndexOutOfBoundsException, IllegalArgumentException {
        requireSet(set);
        requireArgument(place >= 0);
        return now.members(set).at(place);
    }

    /** How many members are less than a number. */
    public int less(int set, int number)
            throws IndexOutOfBoundsException, IllegalArgumentException {
        requireSet(set);
        requireNumber(number);
        return now.members(set).placeOf(number);
    }

    /** The member nearest to a number, of two the lesser one, NONE if the set is empty. */
    public int nearest(int set, int number)
            throws IndexOutOfBoundsException, IllegalArgumentException {
        requireSet(set);
        requireNumber(number);
        return now.members(set).nearestTo(number);
    }

    /** A property of a block, NONE if there are not so many blocks. */
    public int block(int set, int block, int what)
            throws IndexOutOfBoundsException, IllegalArgumentException {
        requireSet(set);
        requireArgument(block >= 0 && what >= 0 && what <= 5);
        if (block >= blocks.cut(now, set)) {
            return NONE;
        }
        switch (what) {
            case 0:
                return blocks.base(block);
            case 1:
                return blocks.membersIn(block);
            case 2:
                return blocks.greatestIn(block);
            case 3:
                return blocks.bytesOf(block);
            case 4:
                return blocks.greatestGapIn(block);
            default:
                return blocks.start(block);
        }
    }

    /** A property of a set. */
    public int of(int set, int what)
            throws IndexOutOfBoundsException, IllegalArgumentException {
        requireSet(set);
        requireArgument(what >= 0 && what <= 7);
        Members members = now.members(set);
        switch (what) {
            case 0:
                return members.amount();
            case 1:
                return blocks.cut(now, set);
            case 2:
                return sizeOf(members);
            case 3:
                return PLAIN_BYTES * members.amount();
            case 4:
                return members.least();
            case 5:
                return members.greatest();
            case 6:
                return members.longestRow();
            default:
                blocks.cut(now, set);
                return blocks.wideGaps();
        }
    }

    /** Intersects two sets by leaps: common members, leaps in each of them, or all looks. */
    public int leaps(int one, int other, int what)
            throws IndexOutOfBoundsException, IllegalArgumentException {
        requireSet(one);
        requireSet(other);
        requireArgument(what >= 0 && what <= 3);
        meeting.run(now, one, other);
        return meeting.result(what);
    }

    /** A number about all sets together, or how many states are saved. */
    public int count(int what) throws IllegalArgumentException {
        requireArgument(what >= 0 && what <= 6);
        switch (what) {
            case 0:
                return allMembers();
            case 1:
                return unlikeMembers();
            case 2:
                return membersOfAllFour();
            case 3:
                return allSizes(now.valueOf(WIDTH));
            case 4:
                return allBlocks();
            case 5:
                return pairsAlike();
            default:
                return history.amount();
        }
    }

    /** The value of a setting. */
    public int setting(int setting) throws IndexOutOfBoundsException {
        requireSetting(setting);
        return now.valueOf(setting);
    }

    // ---- what would be; nothing is changed

    /** The size that a set would have by other settings. */
    public int ifSet(int set, int most, int width)
            throws IndexOutOfBoundsException, IllegalArgumentException {
        requireSet(set);
        requireArgument(isMost(most) && isWidth(width));
        return now.members(set).bytes(most, width);
    }

    /** By how much the size of a set would change, if a number was added. */
    public int ifAdded(int set, int number)
            throws IndexOutOfBoundsException, IllegalArgumentException {
        requireSet(set);
        requireNumber(number);
        Members members = now.members(set);
        trial.copyFrom(members);
        trial.put(number);
        return sizeOf(trial) - sizeOf(members);
    }

    /** The member whose removal would make a set smallest, or the size then. */
    public int dearest(int set, int what)
            throws IndexOutOfBoundsException, IllegalArgumentException {
        requireSet(set);
        requireArgument(what == 0 || what == 1);
        Members members = now.members(set);
        int dearest = NONE;
        int smallest = NONE;
        for (int place = 0; place < members.amount(); place++) {
            int number = members.at(place);
            trial.copyFrom(members);
            trial.cutOut(number, number);
            int size = sizeOf(trial);
            if (place == 0 || size < smallest) {
                dearest = number;
                smallest = size;
            }
        }
        return what == 0 ? dearest : smallest;
    }

    /** The setting 1 with which all sets together would be smallest. */
    public int bestWidth() {
        gatherWidths();
        int best = 1;
        int smallest = allSizes(1);
        for (int place = 1; place < widths.amount(); place++) {
            int size = allSizes(widths.at(place));
            if (size < smallest) {
                best = widths.at(place);
                smallest = size;
            }
        }
        return best;
    }

    /** The sizes of all sets divided by their plain sizes, 1.0 if these are 0. */
    public double smallness() {
        int plain = PLAIN_BYTES * allMembers();
        if (plain == 0) {
            return 1.0;
        }
        return (double) allSizes(now.valueOf(WIDTH)) / (double) plain;
    }

    /** A hash of the whole state. */
    public long digest() {
        long hash = 2617;
        for (int what = 0; what <= 6; what++) {
            hash = mix(hash, count(what));
        }
        for (int setting = 0; setting < SETTINGS; setting++) {
            hash = mix(hash, now.valueOf(setting));
        }
        for (int set = 0; set < SETS; set++) {
            hash = mixMembers(hash, set);
            hash = mixBlocks(hash, set);
            hash = mixLooks(hash, set);
        }
        hash = mix(hash, bestWidth());
        hash = mix(hash, bitsOf(smallness()));
        return mixBuffer(hash);
    }

    // ---- the exceptions

    private static void requireSet(int set) {
        if (set < 0 || set >= SETS) {
            throw new IndexOutOfBoundsException("no such set");
        }
    }

    private static void requireSetting(int setting) {
        if (setting < 0 || setting >= SETTINGS) {
            throw new IndexOutOfBoundsException("no such setting");
        }
    }

    private static void requireNumber(int number) {
        requireArgument(number >= 0 && number <= GREATEST);
    }

    private static void requireArgument(boolean fits) {
        if (!fits) {
            throw new IllegalArgumentException("an argument is out of range");
        }
    }

    private static void requireState(boolean fits) {
        if (!fits) {
            throw new IllegalStateException("the state does not allow this");
        }
    }

    private static boolean isMost(int value) {
        return value >= MOST_LOW && value <= MOST_HIGH;
    }

    private static boolean isWidth(int value) {
        return value >= 1 && value <= GREATEST;
    }

    // ---- parts of the calls

    private static void joinInto(Members joined, Members one, Members other, int how) {
        joined.empty();
        for (int place = 0; place < one.amount(); place++) {
            int number = one.at(place);
            if (how == 0 || other.holds(number) == (how == 1)) {
                joined.put(number);
            }
        }
        if (how == 0 || how == 3) {
            for (int place = 0; place < other.amount(); place++) {
                int number = other.at(place);
                if (!one.holds(number)) {
                    joined.put(number);
                }
            }
        }
    }

    private int sizeOf(Members members) {
        return members.bytes(now.valueOf(MOST), now.valueOf(WIDTH));
    }

    private int allMembers() {
        int all = 0;
        for (int set = 0; set < SETS; set++) {
            all += now.members(set).amount();
        }
        return all;
    }

    private int unlikeMembers() {
        int unlike = 0;
        for (int set = 0; set < SETS; set++) {
            Members members = now.members(set);
            for (int place = 0; place < members.amount(); place++) {
                // A number counts in the first set that has it.
                if (holdersAhead(set, members.at(place)) == 0) {
                    unlike++;
                }
            }
        }
        return unlike;
    }

    private int membersOfAllFour() {
        int common = 0;
        Members members = now.members(SETS - 1);
        for (int place = 0; place < members.amount(); place++) {
            if (holdersAhead(SETS - 1, members.at(place)) == SETS - 1) {
                common++;
            }
        }
        return common;
    }

    private int holdersAhead(int end, int number) {
        int holders = 0;
        for (int set = 0; set < end; set++) {
            if (now.members(set).holds(number)) {
                holders++;
            }
        }
        return holders;
    }

    private int allSizes(int width) {
        int all = 0;
        for (int set = 0; set < SETS; set++) {
            all += now.members(set).bytes(now.valueOf(MOST), width);
        }
        return all;
    }

    private int allBlocks() {
        int all = 0;
        for (int set = 0; set < SETS; set++) {
            all += blocks.cut(now, set);
        }
        return all;
    }

    private int pairsAlike() {
        int pairs = 0;
        for (int one = 0; one < SETS; one++) {
            for (int other = one + 1; other < SETS; other++) {
                if (now.members(one).isLike(now.members(other))) {
                    pairs++;
                }
            }
        }
        return pairs;
    }

    private void gatherWidths() {
        widths.empty();
        widths.put(1);
        for (int set = 0; set < SETS; set++) {
            Members members = now.members(set);
            for (int place = 1; place < members.amount(); place++) {
                widths.put(members.gapAhead(place));
            }
        }
    }

    private static long mix(long hash, long value) {
        return 31 * hash + value;
    }

    private long mixMembers(long start, int set) {
        long hash = start;
        for (int what = 0; what <= 7; what++) {
            hash = mix(hash, of(set, what));
        }
        Members members = now.members(set);
        for (int place = 0; place < members.amount(); place++) {
            hash = mix(hash, members.at(place));
        }
        return hash;
    }

    private long mixBlocks(long start, int set) {
        long hash = start;
        int amount = blocks.cut(now, set);
        for (int number = 0; number < amount; number++) {
            for (int what = 0; what <= 5; what++) {
                hash = mix(hash, block(set, number, what));
            }
        }
        return hash;
    }

    private long mixLooks(long start, int set) {
        long hash = mix(start, dearest(set, 0));
        hash = mix(hash, dearest(set, 1));
        hash = mix(hash, ifAdded(set, 5000));
        hash = mix(hash, nearest(set, 5000));
        meeting.run(now, set, 0);
        for (int what = 0; what <= 3; what++) {
            hash = mix(hash, meeting.result(what));
        }
        return hash;
    }

    private long mixBuffer(long start) {
        long hash = mix(start, buffer.length());
        for (int index = 0; index < buffer.length(); index++) {
            hash = mix(hash, buffer.at(index));
        }
        return hash;
    }

    // The bits of a double above 0, by exact steps: LANGUAGE.md leaves no library call for them.
    private static long bitsOf(double share) {
        double rest = share;
        long exponent = 1023;
        for (int step = 0; step < 1000 && rest < 1.0; step++) {
            rest = rest * 2.0;
            exponent--;
        }
        for (int step = 0; step < 1000 && rest >= 2.0; step++) {
            rest = rest / 2.0;
            exponent++;
        }
        return (exponent << 52) + (long) ((rest - 1.0) * 4503599627370496.0);
    }

    private static int gapBytes(int gap) {
        return gap < WIDE_FROM ? 1 : 2;
    }

    /** Numbers in ascending order, each of them once, in a row whose length is fixed. */
    private static final class Members {
        private final int[] numbers;
        private int amount;

        Members(int room) {
            numbers = new int[room > 0 ? room : 0];
            amount = 0;
        }

        int amount() {
            return amount;
        }

        boolean isEmpty() {
            return amount == 0;
        }

        int at(int place) {
            return place >= 0 && place < amount && place < numbers.length ? numbers[place] : NONE;
        }

        int least() {
            return at(0);
        }

        int greatest() {
            return at(amount - 1);
        }

        int gapAhead(int place) {
            boolean hasGap = place > 0 && place < amount && place < numbers.length;
            return hasGap ? numbers[place] - numbers[place - 1] : 0;
        }

        int placeOf(int number) {
            for (int place = 0; place < amount; place++) {
                if (at(place) >= number) {
                    return place;
                }
            }
            return amount;
        }

        boolean holds(int number) {
            int place = placeOf(number);
            return place < amount && at(place) == number;
        }

        int nearestTo(int number) {
            int place = placeOf(number);
            if (place == 0) {
                return least();
            }
            if (place >= amount) {
                return greatest();
            }
            int below = at(place - 1);
            int above = at(place);
            return number - below <= above - number ? below : above;
        }

        int longestRow() {
            int longest = 0;
            int row = 0;
            for (int place = 0; place < amount; place++) {
                row = place > 0 && gapAhead(place) == 1 ? row + 1 : 1;
                longest = Math.max(longest, row);
            }
            return longest;
        }

        boolean isLike(Members other) {
            if (amount != other.amount()) {
                return false;
            }
            for (int place = 0; place < amount; place++) {
                if (at(place) != other.at(place)) {
                    return false;
                }
            }
            return true;
        }

        boolean beginsBlock(int place, int inBlock, int most, int width) {
            return place == 0 || inBlock >= most || gapAhead(place) > width;
        }

        int bytes(int most, int width) {
            int bytes = 0;
            int inBlock = 0;
            for (int place = 0; place < amount; place++) {
                if (beginsBlock(place, inBlock, most, width)) {
                    bytes += HEAD_BYTES;
                    inBlock = 1;
                } else {
                    bytes += gapBytes(gapAhead(place));
                    inBlock++;
                }
            }
            return bytes;
        }

        void empty() {
            amount = 0;
        }

        void put(int number) {
            if (holds(number) || amount >= numbers.length) {
                return;
            }
            int free = placeOf(number);
            for (int place = amount; place > free; place--) {
                numbers[place] = numbers[place - 1];
            }
            numbers[free] = number;
            amount++;
        }

        int cutOut(int from, int to) {
            int kept = 0;
            for (int place = 0; place < amount && place < numbers.length; place++) {
                int number = numbers[place];
                if (number < from || number > to) {
                    numbers[kept] = number;
                    kept++;
                }
            }
            int removed = amount - kept;
            amount = kept;
            return removed;
        }

        void moveBy(int by) {
            for (int place = 0; place < amount && place < numbers.length; place++) {
                numbers[place] += by;
            }
        }

        void copyFrom(Members other) {
            amount = Math.min(other.amount(), numbers.length);
            for (int place = 0; place < amount && place < numbers.length; place++) {
                numbers[place] = other.at(place);
            }
        }
    }

    /** The blocks of one set, as the places where they start, and behind these the end. */
    private static final class Blocks {
        private final int[] starts;
        private int amount;
        private Members members;

        Blocks() {
            starts = new int[FULL + 1];
            amount = 0;
            members = new Members(0);
        }

        /** Cuts a set into its blocks, and returns how many these are. */
        int cut(State state, int set) {
            members = state.members(set);
            int most = state.valueOf(MOST);
            int width = state.valueOf(WIDTH);
            int found = 0;
            int inBlock = 0;
            for (int place = 0; place < members.amount(); place++) {
                if (members.beginsBlock(place, inBlock, most, width)) {
                    putStart(found, place);
                    found++;
                    inBlock = 1;
                } else {
                    inBlock++;
                }
            }
            putStart(found, members.amount());
            amount = found;
            return amount;
        }

        int amount() {
            return amount;
        }

        private void putStart(int block, int place) {
            if (block >= 0 && block < starts.length) {
                starts[block] = place;
            }
        }

        int start(int block) {
            return block >= 0 && block <= amount && block < starts.length ? starts[block] : NONE;
        }

        int end(int block) {
            return start(block + 1);
        }

        int base(int block) {
            return members.at(start(block));
        }

        int membersIn(int block) {
            return end(block) - start(block);
        }

        int greatestIn(int block) {
            return members.at(end(block) - 1);
        }

        int bytesOf(int block) {
            int bytes = HEAD_BYTES;
            for (int place = start(block) + 1; place < end(block); place++) {
                bytes += gapBytes(members.gapAhead(place));
            }
            return bytes;
        }

        int greatestGapIn(int block) {
            int greatest = 0;
            for (int place = start(block) + 1; place < end(block); place++) {
                greatest = Math.max(greatest, members.gapAhead(place));
            }
            return greatest;
        }

        int wideGaps() {
            int wide = 0;
            for (int block = 0; block < amount; block++) {
                for (int place = start(block) + 1; place < end(block); place++) {
                    wide += members.gapAhead(place) >= WIDE_FROM ? 1 : 0;
                }
            }
            return wide;
        }

        int blockAt(int place) {
            int found = 0;
            for (int block = 1; block < amount && start(block) <= place; block++) {
                found = block;
            }
            return found;
        }
    }

    /** All that undo restores. */
    private static final class State {
        private final Members[] sets;
        private final Members noSet;
        private final int[] settings;

        State() {
            sets = new Members[SETS];
            for (int set = 0; set < SETS; set++) {
                sets[set] = new Members(FULL);
            }
            noSet = new Members(0);
            settings = new int[] {8, 300};
        }

        Members members(int set) {
            Members found = set >= 0 && set < sets.length ? sets[set] : null;
            return found == null ? noSet : found;
        }

        int valueOf(int setting) {
            return setting >= 0 && setting < settings.length ? settings[setting] : NONE;
        }

        void change(int setting, int value) {
            if (setting >= 0 && setting < settings.length) {
                settings[setting] = value;
            }
        }

        void copyFrom(State other) {
            for (int set = 0; set < SETS; set++) {
                members(set).copyFrom(other.members(set));
            }
            for (int setting = 0; setting < SETTINGS; setting++) {
                change(setting, other.valueOf(setting));
            }
        }
    }

    /** The saved states, in a ring, so that a new one takes the place of the oldest one. */
    private static final class History {
        private final State[] ring;
        private int next;
        private int amount;

        History() {
            ring = new State[STATES];
            for (int slot = 0; slot < STATES; slot++) {
                ring[slot] = new State();
            }
            next = 0;
            amount = 0;
        }

        int amount() {
            return amount;
        }

        void save(State state) {
            State slot = slotAt(next);
            if (slot != null) {
                slot.copyFrom(state);
                next = (next + 1) % STATES;
                amount = Math.min(amount + 1, STATES);
            }
        }

        void restore(State state) {
            int latest = (next + STATES - 1) % STATES;
            State slot = slotAt(latest);
            if (slot != null && amount > 0) {
                state.copyFrom(slot);
                next = latest;
                amount--;
            }
        }

        private State slotAt(int slot) {
            return slot >= 0 && slot < ring.length ? ring[slot] : null;
        }
    }

    /** The characters of the buffer. */
    private static final class Buffer {
        private final int[] codes;
        private int length;

        Buffer() {
            codes = new int[CHARACTERS];
            length = 0;
        }

        int length() {
            return length;
        }

        int at(int index) {
            return index >= 0 && index < length && index < codes.length ? codes[index] : NONE;
        }

        void put(int code) {
            if (length >= 0 && length < codes.length) {
                codes[length] = code;
                length++;
            }
        }

        void empty() {
            length = 0;
        }
    }

    /** Takes a text character by character, as long as a set as a text can begin so. */
    private static final class Parser {
        private final int[] firsts;
        private final int[] lasts;
        private int parts;
        private boolean isRange;
        private int first;
        // The number that is being read, and the least one that it may become.
        private int least;
        private int value;
        private int digits;

        Parser() {
            firsts = new int[CHARACTERS];
            lasts = new int[CHARACTERS];
            restart();
        }

        /** The index of the first character that can't be taken, or the length. */
        int parse(Buffer buffer) {
            restart();
            for (int index = 0; index < buffer.length(); index++) {
                if (!takes(buffer.at(index))) {
                    return index;
                }
            }
            return buffer.length();
        }

        boolean parsesWhole(Buffer buffer) {
            if (parse(buffer) < buffer.length() || !isWhole()) {
                return false;
            }
            closePart();
            return true;
        }

        int amount() {
            int amount = 0;
            for (int part = 0; part < parts && part < firsts.length && part < lasts.length; part++) {
                amount += lasts[part] - firsts[part] + 1;
            }
            return amount;
        }

        void fill(Members members) {
            members.empty();
            for (int part = 0; part < parts && part < firsts.length && part < lasts.length; part++) {
                for (int number = firsts[part]; number <= lasts[part]; number++) {
                    members.put(number);
                }
            }
        }

        private void restart() {
            parts = 0;
            isRange = false;
            first = 0;
            beginNumber(0);
        }

        private void beginNumber(int from) {
            least = from;
            value = 0;
            digits = 0;
        }

        private boolean takes(int code) {
            if (code == ',') {
                return takesComma();
            }
            if (code == '-') {
                return takesDash();
            }
            return code >= '0' && code <= '9' && takesDigit(code - '0');
        }

        private boolean takesComma() {
            // Behind the greatest number no part could follow.
            if (!isWhole() || value >= GREATEST) {
                return false;
            }
            closePart();
            isRange = false;
            beginNumber(value + 1);
            return true;
        }

        private boolean takesDash() {
            if (!isWhole() || isRange) {
                return false;
            }
            first = value;
            isRange = true;
            beginNumber(value);
            return true;
        }

        private boolean takesDigit(int digit) {
            boolean isAfterZero = digits > 0 && value == 0;
            if (isAfterZero || digits >= DIGITS) {
                return false;
            }
            int longer = 10 * value + digit;
            if (greatestFrom(longer, digits + 1) < least) {
                return false;
            }
            value = longer;
            digits++;
            return true;
        }

        private boolean isWhole() {
            return digits > 0 && value >= least;
        }

        private void closePart() {
            if (parts >= 0 && parts < firsts.length && parts < lasts.length) {
                firsts[parts] = isRange ? first : value;
                lasts[parts] = value;
                parts++;
            }
        }

        private static int greatestFrom(int number, int digits) {
            if (number == 0) {
                return 0;
            }
            int greatest = number;
            for (int more = digits; more < DIGITS; more++) {
                greatest = 10 * greatest + 9;
            }
            return greatest;
        }
    }

    /** One of two sets that are intersected: where it stands, and what its leaps cost. */
    private static final class Leaper {
        private final Blocks blocks;
        private Members members;
        private int place;
        private int leaps;
        private int looks;

        Leaper() {
            blocks = new Blocks();
            members = new Members(0);
            place = 0;
            leaps = 0;
            looks = 0;
        }

        void begin(State state, int set) {
            members = state.members(set);
            blocks.cut(state, set);
            place = 0;
            leaps = 0;
            looks = 0;
        }

        int reached() {
            return members.at(place);
        }

        int allLeaps() {
            return leaps;
        }

        int allLooks() {
            return looks;
        }

        boolean steps() {
            place++;
            return place < members.amount();
        }

        /** Goes to the least member that is at least the number; false if there is none. */
        boolean leapsTo(int number) {
            leaps++;
            if (members.isEmpty()) {
                return false;
            }
            int block = lookForBlock(number);
            for (int next = blocks.start(block); next < blocks.end(block); next++) {
                looks++;
                if (members.at(next) >= number) {
                    place = next;
                    return true;
                }
            }
            if (block + 1 >= blocks.amount()) {
                return false;
            }
            looks++;
            place = blocks.start(block + 1);
            return true;
        }

        private int lookForBlock(int number) {
            int block = blocks.blockAt(place);
            for (int next = block + 1; next < blocks.amount(); next++) {
                looks++;
                if (blocks.base(next) > number) {
                    return block;
                }
                block = next;
            }
            return block;
        }
    }

    /** An intersection of two sets by leaps. */
    private static final class Meeting {
        private final Leaper first;
        private final Leaper second;
        private int common;

        Meeting() {
            first = new Leaper();
            second = new Leaper();
            common = 0;
        }

        void run(State state, int one, int other) {
            first.begin(state, one);
            second.begin(state, other);
            common = 0;
            int candidates = state.members(one).amount();
            boolean isOpen = true;
            // Each round has a greater candidate than the one ahead of it.
            for (int round = 0; isOpen && round < candidates; round++) {
                int candidate = first.reached();
                if (!second.leapsTo(candidate)) {
                    isOpen = false;
                } else if (second.reached() == candidate) {
                    common++;
                    isOpen = first.steps();
                } else {
                    isOpen = first.leapsTo(second.reached());
                }
            }
        }

        int result(int what) {
            switch (what) {
                case COMMON:
                    return common;
                case FIRST_LEAPS:
                    return first.allLeaps();
                case SECOND_LEAPS:
                    return second.allLeaps();
                default:
                    return first.allLooks() + second.allLooks();
            }
        }
    }
}
