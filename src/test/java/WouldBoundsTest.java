/** The boundary cases of promises 22 to 27: what would be, and the hash. */
public final class WouldBoundsTest extends Bounds {
    private static final String FIRST = "If several exceptions apply, the one that is named first in the throws "
            + "clause is thrown.";
    private static final String NOTHING = "what would be; nothing is changed";

    private WouldBoundsTest() {
    }

    public static void main(String[] args) {
        ifSet();
        ifSetOutside();
        ifAdded();
        ifAddedToFullSets();
        ifAddedOutside();
        dearest();
        dearestOutside();
        bestWidth();
        bestWidthOfSeveral();
        smallness();
        digest();
        digestOfShares();
        Check.end();
    }

    private static void is(String theCase, Object due, String text, Use use) {
        is(theCase, due, () -> sets(text), use);
    }

    // ---- promise 22

    private static void ifSet() {
        promise("Promise 22, ifSet");
        says("`most`: 2 to 16, in place of setting 0");
        is("2 is just inside", 4 + 4 + 3, "0-4", x -> x.ifSet(0, 2, 300));
        is("16 is just inside", 18 + 3, "0-16", x -> x.ifSet(0, 16, 300));
        is("16, and 16 members", 18, "0-15", x -> x.ifSet(0, 16, 300));
        is("2, and 2 members", 4, "0-1", x -> x.ifSet(0, 2, 300));
        is("60 members by 2", 30 * 4, Bounds::full, x -> x.ifSet(0, 2, 300));
        is("60 members by 16", 3 * 18 + 14, Bounds::full, x -> x.ifSet(0, 16, 300));
        says("`width`: 1 to 9999, in place of setting 1");
        is("1 is just inside, a gap of 1", 4, "0,1", x -> x.ifSet(0, 8, 1));
        is("1 is just inside, a gap of 2", 6, "0,2", x -> x.ifSet(0, 8, 1));
        is("9999 is just inside", 5, "0,9999", x -> x.ifSet(0, 8, 9999));
        is("9998 is less than the gap", 6, "0,9999", x -> x.ifSet(0, 8, 9998));
        is("the gap is the width", 5, "0,128", x -> x.ifSet(0, 8, 128));
        is("the gap is one more", 6, "0,128", x -> x.ifSet(0, 8, 127));
        is("60 members in 60 blocks", 180, Bounds::full, x -> x.ifSet(2, 16, 168));
        is("60 members in 4 blocks", 124, Bounds::full, x -> x.ifSet(2, 16, 169));
        says("Returns its size then.");
        is("of an empty set", 0, Bounds::fresh, x -> x.ifSet(0, 2, 1));
        is("of one member", 3, "7", x -> x.ifSet(0, 2, 1));
        is("by the settings as they are", 14, Bounds::some, x -> x.ifSet(0, 8, 300));
        is("whatever the settings are", 14, () -> settings(some(), 2, 1), x -> x.ifSet(0, 8, 300));
    }

    private static void ifSetOutside() {
        promise("Promise 22, ifSet");
        noSuchSet((x, set) -> x.ifSet(set, 8, 300));
        says("`set`: 0 to 3");
        is("set 0 is just inside", 3, () -> with(0, 5), x -> x.ifSet(0, 8, 300));
        is("set 3 is just inside", 3, () -> with(3, 5), x -> x.ifSet(3, 8, 300));
        says("Throws `IllegalArgumentException` if most or width is out of range");
        refusedEverywhere("most", ARGUMENT, outside(2, 16), (x, most) -> x.ifSet(0, most, 300));
        refusedEverywhere("most, of set 2,", ARGUMENT, outside(2, 16), (x, most) -> x.ifSet(2, most, 1));
        refusedEverywhere("width", ARGUMENT, outside(1, 9999), (x, width) -> x.ifSet(0, 8, width));
        refusedEverywhere("width, of set 2,", ARGUMENT, outside(1, 9999), (x, width) -> x.ifSet(2, 2, width));
        refusedEverywhere("most and width", ARGUMENT, outside(2, 16), (x, most) -> x.ifSet(0, most, 0));
        says(NOTHING);
        keepsEverywhere("the least ones", x -> x.ifSet(0, 2, 1));
        keepsEverywhere("the greatest ones", x -> x.ifSet(0, 16, 9999));
        says(FIRST);
        refusedEverywhere("no such set, ahead of most 1: set", INDEX, outside(0, 3),
                (x, set) -> x.ifSet(set, 1, 300));
        refusedEverywhere("no such set, ahead of width 0: set", INDEX, outside(0, 3),
                (x, set) -> x.ifSet(set, 8, 0));
    }

    // ---- promise 23

    private static void ifAdded() {
        promise("Promise 23, ifAdded");
        says("Returns its size then less its size now (0 if it is a member; whether the set has 60 members does not "
                + "matter).");
        is("to an empty set", 3, Bounds::fresh, x -> x.ifAdded(0, 0));
        is("9999 to an empty set", 3, Bounds::fresh, x -> x.ifAdded(0, 9999));
        is("a member", 0, "7,9", x -> x.ifAdded(0, 7));
        is("the greatest member", 0, "7,9", x -> x.ifAdded(0, 9));
        is("a gap of 1", 1, "7", x -> x.ifAdded(0, 8));
        is("a gap of 127", 1, "7", x -> x.ifAdded(0, 134));
        is("a gap of 128", 2, "7", x -> x.ifAdded(0, 135));
        is("a gap of 300", 2, "7", x -> x.ifAdded(0, 307));
        is("a gap of 301", 3, "7", x -> x.ifAdded(0, 308));
        is("below, a gap of 127", 1, "200", x -> x.ifAdded(0, 73));
        is("below, a gap of 128", 2, "200", x -> x.ifAdded(0, 72));
        is("within a gap of one byte", 1, "0,127", x -> x.ifAdded(0, 60));
        is("within a gap of 128, nothing changes", 0, "0,128", x -> x.ifAdded(0, 64));
        is("within a gap of 255, one of 127 and one of 128", 1, "0,255", x -> x.ifAdded(0, 127));
        is("within a gap of 254, nothing changes", 0, "0,254", x -> x.ifAdded(0, 127));
        is("less than 0: two blocks become one", -1, () -> settings(sets("0,200"), 8, 100),
                x -> x.ifAdded(0, 100));
        is("between two blocks that stay two", 1, "0,600", x -> x.ifAdded(0, 1));
        is("a full block and its 9th member", 3, "0-7", x -> x.ifAdded(0, 8));
        is("the 8th member", 1, "0-6", x -> x.ifAdded(0, 7));
        is("the least one ahead of a full block", 3, "1-8", x -> x.ifAdded(0, 0));
        is("by other settings", 3, () -> settings(sets("0,1"), 2, 300), x -> x.ifAdded(0, 2));
    }

    private static void ifAddedToFullSets() {
        promise("Promise 23, ifAdded");
        says("whether the set has 60 members does not matter");
        is("one more behind 60 members", 1, Bounds::full, x -> x.ifAdded(0, 60));
        is("a block more behind 60 members", 3, Bounds::full, x -> x.ifAdded(0, 9999));
        is("a block more, all blocks being full", 3, () -> settings(full(), 2, 300), x -> x.ifAdded(0, 60));
        is("one more ahead of 60 members", 1, Bounds::full, x -> x.ifAdded(3, 29));
        is("a block more between 60 members", 3, () -> settings(full(), 2, 83), x -> x.ifAdded(2, 9886));
        is("between 60 members, near the block behind", 1, () -> settings(full(), 2, 84), x -> x.ifAdded(2, 9887));
        is("between 60 members, near the block ahead", 1, () -> settings(full(), 2, 84), x -> x.ifAdded(2, 1));
        is("a member of 60", 0, Bounds::full, x -> x.ifAdded(0, 59));
        is("to 59 members", 1, () -> sets("0-58"), x -> x.ifAdded(0, 59));
        is("0 ahead of 60", 1, () -> sets("1-60"), x -> x.ifAdded(0, 0));
        says(NOTHING);
        keepsEverywhere("0", x -> x.ifAdded(0, 0));
        keepsEverywhere("9999", x -> x.ifAdded(0, 9999));
        keepsEverywhere("a member", x -> x.ifAdded(1, 9999));
    }

    private static void ifAddedOutside() {
        promise("Promise 23, ifAdded");
        noSuchSet((x, set) -> x.ifAdded(set, 5));
        says("`set`: 0 to 3");
        is("set 0 is just inside", 0, () -> with(0, 5), x -> x.ifAdded(0, 5));
        is("set 3 is just inside", 0, () -> with(3, 5), x -> x.ifAdded(3, 5));
        says("Throws `IllegalArgumentException` if number is out of range");
        refusedEverywhere("number", ARGUMENT, outside(0, 9999), (x, number) -> x.ifAdded(0, number));
        refusedEverywhere("number, to set 2,", ARGUMENT, outside(0, 9999), (x, number) -> x.ifAdded(2, number));
        says("`number`: 0 to 9999");
        is("0 is just inside", 1, "1", x -> x.ifAdded(0, 0));
        is("9999 is just inside", 1, "9998", x -> x.ifAdded(0, 9999));
        says(FIRST);
        refusedEverywhere("no such set, ahead of number -1: set", INDEX, outside(0, 3),
                (x, set) -> x.ifAdded(set, -1));
        refusedEverywhere("no such set, ahead of number 10000: set", INDEX, outside(0, 3),
                (x, set) -> x.ifAdded(set, 10000));
    }

    // ---- promise 24

    private static void dearestIs(String theCase, String due, Make from) {
        is(theCase, due, from, x -> x.dearest(0, 0) + " " + x.dearest(0, 1));
    }

    private static void dearest() {
        promise("Promise 24, dearest");
        says("Returns the number; NONE if the set is empty.");
        dearestIs("of an empty set", "-1 -1", Bounds::fresh);
        dearestIs("of an emptied set", "-1 -1", () -> {
            GapSets x = full();
            x.removeRange(0, 0, 9999);
            return x;
        });
        dearestIs("of one member, 0", "0 0", () -> sets("0"));
        dearestIs("of one member, 9999", "9999 0", () -> sets("9999"));
        says("`what`: 0: the member, of several the least one; 1: the size of the set then");
        dearestIs("of two alike the least one", "5 3", () -> sets("5,6"));
        dearestIs("of 60 alike the least one", "0 75", Bounds::full);
        dearestIs("the greatest one is dearer", "5000 4", () -> sets("0,1,5000"));
        dearestIs("the least one is dearer", "0 4", () -> sets("0,5000,5001"));
        dearestIs("the one between is dearer", "500 8", () -> sets("0,1,500,1000,1001"));
        dearestIs("of two dearer ones the lesser one", "500 11", () -> sets("0,1,500,1000,2000,2001"));
        dearestIs("without the one between it would be greater", "0 5", () -> sets("0,150,301"));
        dearestIs("without the one between a gap of 128 would be left", "0 4", () -> sets("0,127,128"));
        dearestIs("a 9th member in a block of its own", "0 10", () -> sets("0-8"));
        dearestIs("by other settings", "0 4", () -> settings(sets("0-2"), 2, 300));
        dearestIs("the 60th one is dearer", "9999 75", () -> sets("0-58,9999"));
    }

    private static void dearestOutside() {
        promise("Promise 24, dearest");
        noSuchSet((x, set) -> x.dearest(set, 0));
        says("`set`: 0 to 3");
        is("set 0 is just inside", 5, () -> with(0, 5), x -> x.dearest(0, 0));
        is("set 3 is just inside", 5, () -> with(3, 5), x -> x.dearest(3, 0));
        says("Throws `IllegalArgumentException` if what is not 0 or 1");
        refusedEverywhere("what", ARGUMENT, outside(0, 1), (x, what) -> x.dearest(0, what));
        refusedEverywhere("what, of set 2,", ARGUMENT, outside(0, 1), (x, what) -> x.dearest(2, what));
        says(NOTHING);
        keepsEverywhere("what 0", x -> x.dearest(0, 0));
        keepsEverywhere("what 1", x -> x.dearest(2, 1));
        says(FIRST);
        refusedEverywhere("no such set, ahead of what -1: set", INDEX, outside(0, 3),
                (x, set) -> x.dearest(set, -1));
        refusedEverywhere("no such set, ahead of what 2: set", INDEX, outside(0, 3),
                (x, set) -> x.dearest(set, 2));
    }

    // ---- promise 25

    private static void bestWidthIs(String theCase, int due, Make from) {
        is(theCase, due, from, x -> x.bestWidth());
    }

    private static void bestWidth() {
        promise("Promise 25, bestWidth");
        says("of several the least one; 1 if there are no gaps");
        bestWidthIs("empty sets", 1, Bounds::fresh);
        bestWidthIs("one member", 1, () -> sets("5000"));
        bestWidthIs("one member in each set", 1, () -> sets("0", "10", "200", "9999"));
        bestWidthIs("whatever setting 1 is", 1, () -> settings(sets("5"), 8, 9999));
        bestWidthIs("a gap that is gone", 1, () -> {
            GapSets x = sets("5,7");
            Check.same("with the gap", x.bestWidth(), 2);
            x.remove(0, 7);
            return x;
        });
        says("among 1 and all gaps between next members of all sets");
        bestWidthIs("a gap of 1", 1, () -> sets("5,6"));
        bestWidthIs("a gap of 2", 2, () -> sets("5,7"));
        bestWidthIs("a gap of 127", 127, () -> sets("0,127"));
        bestWidthIs("a gap of 128", 128, () -> sets("0,128"));
        bestWidthIs("a gap of 9999", 9999, () -> sets("0,9999"));
        bestWidthIs("a gap greater than setting 1", 500, () -> settings(sets("0,500"), 8, 1));
        bestWidthIs("a gap of the last set", 9, () -> sets("0", "1", "2", "5,14"));
        bestWidthIs("gaps are between next members", 30, () -> sets("0,10,40"));
        bestWidthIs("60 members, all gaps alike", 169, () -> {
            GapSets x = full();
            x.removeRange(0, 0, 9999);
            x.removeRange(1, 0, 9999);
            x.removeRange(3, 0, 9999);
            return x;
        });
    }

    /** The four sets have 59 gaps each, and all of these are unlike. */
    private static GapSets unlikeGaps() {
        GapSets x = new GapSets();
        for (int set = 0; set < 4; set++) {
            int number = 0;
            for (int member = 0; member < 60; member++) {
                x.add(set, number);
                number += 1 + 4 * member + set;
            }
        }
        return x;
    }

    private static int sizeByWidth(GapSets x, int most, int width) {
        int size = 0;
        for (int set = 0; set < 4; set++) {
            size += x.ifSet(set, most, width);
        }
        return size;
    }

    private static void bestWidthOfAllGaps(int most) {
        int best = 1;
        for (int width = 2; width <= 236; width++) {
            if (sizeByWidth(unlikeGaps(), most, width) < sizeByWidth(unlikeGaps(), most, best)) {
                best = width;
            }
        }
        bestWidthIs("236 gaps, all of them unlike, blocks of " + most, best,
                () -> settings(unlikeGaps(), most, 300));
    }

    private static void bestWidthOfSeveral() {
        promise("Promise 25, bestWidth");
        says("Finds the best width.");
        // By 1: 3, and 10 for the block 900 .. 907. By 900: 0 900 .. 906 and 907, 3 + 2 + 6 and 3.
        bestWidthIs("the greatest gap makes it greater", 1, () -> sets("0,900-907"));
        bestWidthIs("the gap between is the best one", 10, () -> sets("0,900-907", "0,10,20"));
        says("of several the least one");
        // By 1: 3 and 4. By 100: 3 + 2 and 3.
        bestWidthIs("1 and a greater gap", 1, () -> settings(sets("0,100,101", "", ""), 2, 300));
        bestWidthIs("two greater gaps", 10, () -> settings(sets("0,10", "0,200,201"), 2, 300));
        says("with which the sizes of all sets together would be least");
        bestWidthIs("not of one set alone", 50, () -> sets("0,900-907", "0,50", "0,900-907"));
        for (int most = 2; most <= 16; most++) {
            bestWidthOfAllGaps(most);
        }
        bestWidthIs("other gaps in place of 236 that are gone", 306, () -> {
            GapSets x = unlikeGaps();
            Check.same("of 236 gaps", x.bestWidth() > 1, true);
            for (int set = 0; set < 4; set++) {
                x.removeRange(set, 0, 9999);
            }
            return put(x, 0, 0, 300, 601, 903, 1206, 1510, 1815, 2121);
        });
        bestWidthIs("by setting 0 as it is", 100, () -> settings(sets("0,100,101"), 3, 300));
        says(NOTHING);
        keepsEverywhere("bestWidth", x -> x.bestWidth());
    }

    // ---- promise 26

    private static void smallness() {
        promise("Promise 26, smallness");
        says("Returns count(3), as a double, divided by the plain sizes of all sets together; 1.0 if these are 0.");
        is("empty sets", 1.0, Bounds::fresh, x -> x.smallness());
        is("emptied sets", 1.0, () -> with(0, 7), x -> then(x.remove(0, 7), x.smallness()));
        is("one member", 1.5, "7", x -> x.smallness());
        is("four members in four sets", 1.5, () -> sets("7", "8", "9", "7"), x -> x.smallness());
        is("two members in a block", 1.0, "7,8", x -> x.smallness());
        is("a share that is no short fraction", 5.0 / 6.0, "7-9", x -> x.smallness());
        is("60 members", 76.0 / 120.0, "0-59", x -> x.smallness());
        is("60 members in 4 blocks, as small as a set may be", 68.0 / 120.0, () -> settings(sets("0-59"), 16, 300),
                x -> x.smallness());
        is("full sets", (76 + 76 + 128 + 76) / 480.0, Bounds::full, x -> x.smallness());
        is("full sets in blocks of one or two", (120 + 120 + 180 + 120) / 480.0, () -> settings(full(), 2, 1),
                x -> x.smallness());
        says(NOTHING);
        keepsEverywhere("smallness", x -> x.smallness());
    }

    // ---- promise 27

    /** The hash by the document's list, each part of it asked of an object of its own. */
    private static long hashOf(Make from) {
        long hash = 2617;
        GapSets x = from.make();
        for (int what = 0; what <= 6; what++) {
            hash = 31 * hash + x.count(what);
        }
        hash = 31 * (31 * hash + x.setting(0)) + x.setting(1);
        for (int set = 0; set < 4; set++) {
            hash = hashOfMembers(hash, from.make(), set);
            hash = hashOfBlocks(hash, from.make(), set);
            hash = hashOfLooks(hash, from.make(), set);
        }
        x = from.make();
        hash = 31 * hash + x.bestWidth();
        return 31 * hash + Double.doubleToLongBits(x.smallness());
    }

    private static long hashOfMembers(long start, GapSets x, int set) {
        long hash = start;
        for (int what = 0; what <= 7; what++) {
            hash = 31 * hash + x.of(set, what);
        }
        int members = x.of(set, 0);
        for (int place = 0; place < members; place++) {
            hash = 31 * hash + x.member(set, place);
        }
        return hash;
    }

    private static long hashOfBlocks(long start, GapSets x, int set) {
        long hash = start;
        int blocks = x.of(set, 1);
        for (int block = 0; block < blocks; block++) {
            for (int what = 0; what <= 5; what++) {
                hash = 31 * hash + x.block(set, block, what);
            }
        }
        return hash;
    }

    private static long hashOfLooks(long start, GapSets x, int set) {
        long hash = 31 * (31 * start + x.dearest(set, 0)) + x.dearest(set, 1);
        hash = 31 * (31 * hash + x.ifAdded(set, 5000)) + x.nearest(set, 5000);
        for (int what = 0; what <= 3; what++) {
            hash = 31 * hash + x.leaps(set, 0, what);
        }
        return hash;
    }

    private static long hashOfNew() {
        int[] all = {0, 0, 0, 0, 0, 6, 0, 8, 300};
        int[] set = {0, 0, 0, 0, -1, -1, 0, 0, -1, -1, 3, -1, 0, 0, 0, 0};
        long hash = 2617;
        for (int value : all) {
            hash = 31 * hash + value;
        }
        for (int time = 0; time < 4; time++) {
            for (int value : set) {
                hash = 31 * hash + value;
            }
        }
        return 31 * (31 * (31 * hash + 1) + 0x3ff0000000000000L);
    }

    private static void digestIs(String theCase, String buffer, Make from) {
        long hash = 31 * hashOf(from) + buffer.length();
        for (char c : buffer.toCharArray()) {
            hash = 31 * hash + c;
        }
        is(theCase, hash, from, x -> x.digest());
        keeps(theCase, from, x -> x.digest());
    }

    private static void digest() {
        promise("Promise 27, digest");
        says("The hash starts at 2617.");
        is("a new object's hash", hashOfNew(), Bounds::fresh, x -> x.digest());
        says("For each value v of the following list, in order, the hash becomes 31 * hash + v, in long arithmetic "
                + "with overflow.");
        digestIs("a new object", "", Bounds::fresh);
        digestIs("some object", "7,9", Bounds::some);
        digestIs("a full object", SIXTY, Bounds::full);
        digestIs("a full object in 60 blocks", SIXTY, () -> settings(full(), 2, 1));
        digestIs("a full object, the greatest settings", SIXTY, () -> settings(full(), 16, 9999));
        digestIs("5000 is a member", "", () -> sets("4999-5001", "5000", "5001", "4999"));
        digestIs("5000 is between two members", "", () -> sets("4999,5001", "4000,6000"));
        digestIs("0 and 9999", "", () -> sets("0", "9999", "0,9999"));
        digestIs("emptied sets", "", () -> {
            GapSets x = sets("7");
            x.undo();
            return x;
        });
        says("the length of the buffer and each of its character codes");
        digestIs("one character, the least code", "!", () -> typed("!"));
        digestIs("one character, the greatest code", "~", () -> typed("~"));
        digestIs("60 characters", "~".repeat(60), () -> typed("~".repeat(60)));
    }

    private static void digestOfShares() {
        promise("Promise 27, digest");
        says("the bits of smallness (as Double.doubleToLongBits)");
        digestIs("1.5, the greatest share", "", () -> sets("7"));
        digestIs("1.0", "", () -> sets("7,8"));
        digestIs("1.0 of empty sets", "", Bounds::fresh);
        digestIs("just above 1.0", "", () -> sets("0-2,400", "0"));
        digestIs("68 / 120, the least share", "", () -> settings(sets("0-59"), 16, 300));
        for (int members = 3; members <= 60; members++) {
            String text = "0-" + (members - 1);
            digestIs("one set of " + members + " members", "", () -> settings(sets(text), 2 + text.length(), 300));
        }
    }
}
