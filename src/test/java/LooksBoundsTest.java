/** The boundary cases of promises 13 to 21: looks, which change nothing. */
public final class LooksBoundsTest extends Bounds {
    private static final String FIRST = "If several exceptions apply, the one that is named first in the throws "
            + "clause is thrown.";
    private static final String NUMBER = "Throws `IllegalArgumentException` if number is out of range";
    private static final String NOTHING = "looks; nothing is changed";

    private LooksBoundsTest() {
    }

    public static void main(String[] args) {
        has();
        member();
        less();
        nearest();
        block();
        blockProperties();
        blockOutside();
        of();
        ofRows();
        ofWideGaps();
        ofOutside();
        leaps();
        countMembers();
        countBlocksAndPairs();
        countSaved();
        countOutside();
        setting();
        Check.end();
    }

    private static void is(String theCase, Object due, String text, Use use) {
        is(theCase, due, () -> sets(text), use);
    }

    /** Sixty members in each set, no two of them alike. */
    private static GapSets fullAndUnlike() {
        return sets("0-59", "60-119", "120-179", "9940-9999");
    }

    // ---- promise 13

    private static void has() {
        promise("Promise 13, has");
        noSuchSet((x, set) -> x.has(set, 5));
        says("`set`: 0 to 3");
        is("set 0 is just inside", "1000", () -> with(0, 5),
                x -> "" + x.has(0, 5) + x.has(1, 5) + x.has(2, 5) + x.has(3, 5));
        is("set 3 is just inside", "0001", () -> with(3, 5),
                x -> "" + x.has(0, 5) + x.has(1, 5) + x.has(2, 5) + x.has(3, 5));
        says(NUMBER);
        refusedEverywhere("number", ARGUMENT, outside(0, 9999), (x, number) -> x.has(0, number));
        refusedEverywhere("number, of set 2,", ARGUMENT, outside(0, 9999), (x, number) -> x.has(2, number));
        says("`number`: 0 to 9999");
        is("0 is just inside", 0, Bounds::fresh, x -> x.has(0, 0));
        is("9999 is just inside", 0, Bounds::fresh, x -> x.has(0, 9999));
        says("Returns 1 if it is, otherwise 0.");
        is("0", 1, "0,9999", x -> x.has(0, 0));
        is("9999", 1, "0,9999", x -> x.has(0, 9999));
        is("1 of 0 and 9999", 0, "0,9999", x -> x.has(0, 1));
        is("9998 of 0 and 9999", 0, "0,9999", x -> x.has(0, 9998));
        is("one less than the only member", 0, "7", x -> x.has(0, 6));
        is("one more than the only member", 0, "7", x -> x.has(0, 8));
        is("the 60th", 1, Bounds::full, x -> x.has(0, 59));
        is("one more than the 60th", 0, Bounds::full, x -> x.has(0, 60));
        is("one that was removed", 0, "7", x -> then(x.remove(0, 7), x.has(0, 7)));
        says(NOTHING);
        keepsEverywhere("a number", x -> x.has(0, 10));
        says(FIRST);
        refusedEverywhere("no such set, ahead of number -1: set", INDEX, outside(0, 3), (x, set) -> x.has(set, -1));
        refusedEverywhere("no such set, ahead of number 10000: set", INDEX, outside(0, 3),
                (x, set) -> x.has(set, 10000));
    }

    // ---- promise 14

    private static void member() {
        promise("Promise 14, member");
        noSuchSet((x, set) -> x.member(set, 0));
        says("`set`: 0 to 3");
        is("set 0 is just inside", 5, () -> with(0, 5), x -> x.member(0, 0));
        is("set 3 is just inside", 5, () -> with(3, 5), x -> x.member(3, 0));
        says("Throws `IllegalArgumentException` if place is below 0");
        refusedEverywhere("place", ARGUMENT, new int[] {-1, -2, -60, MIN}, (x, place) -> x.member(0, place));
        refusedEverywhere("place, of set 2,", ARGUMENT, new int[] {-1, MIN}, (x, place) -> x.member(2, place));
        says("`place`: 0 for the least one, and so on");
        is("0", 7, "7,9", x -> x.member(0, 0));
        is("1", 9, "7,9", x -> x.member(0, 1));
        is("59 of 60", 59, Bounds::full, x -> x.member(0, 59));
        is("0 of 60", 0, Bounds::full, x -> x.member(0, 0));
        says("Returns the member; NONE if there are not so many.");
        is("2 of two members", -1, "7,9", x -> x.member(0, 2));
        is("60 of 60", -1, Bounds::full, x -> x.member(0, 60));
        is("61 of 60", -1, Bounds::full, x -> x.member(0, 61));
        is("the greatest int", -1, Bounds::full, x -> x.member(0, MAX));
        is("0 of an empty set", -1, Bounds::fresh, x -> x.member(0, 0));
        is("the greatest int of an empty set", -1, Bounds::fresh, x -> x.member(0, MAX));
        is("59 of a full set that has lost one", -1, Bounds::full, x -> then(x.remove(0, 0), x.member(0, 59)));
        is("0 of a set that has lost all", -1, Bounds::full,
                x -> then(x.removeRange(0, 0, 9999), x.member(0, 0)));
        says(NOTHING);
        keepsEverywhere("a place", x -> x.member(0, 0));
        says(FIRST);
        refusedEverywhere("no such set, ahead of place -1: set", INDEX, outside(0, 3),
                (x, set) -> x.member(set, -1));
    }

    // ---- promise 15

    private static void less() {
        promise("Promise 15, less");
        noSuchSet((x, set) -> x.less(set, 5));
        says("`set`: 0 to 3");
        is("set 0 is just inside", 1, () -> with(0, 5), x -> x.less(0, 6));
        is("set 3 is just inside", 1, () -> with(3, 5), x -> x.less(3, 6));
        says(NUMBER);
        refusedEverywhere("number", ARGUMENT, outside(0, 9999), (x, number) -> x.less(0, number));
        refusedEverywhere("number, of set 2,", ARGUMENT, outside(0, 9999), (x, number) -> x.less(2, number));
        says("`number`: 0 to 9999");
        is("0 is just inside", 0, "5", x -> x.less(0, 0));
        is("9999 is just inside", 1, "5", x -> x.less(0, 9999));
        says("Tells how many members are less than a number.");
        is("none of an empty set", 0, Bounds::fresh, x -> x.less(0, 9999));
        is("none is less than 0", 0, "0,9999", x -> x.less(0, 0));
        is("0 is less than 1", 1, "0,9999", x -> x.less(0, 1));
        is("9999 is not less than itself", 1, "0,9999", x -> x.less(0, 9999));
        is("9998 is less than 9999", 2, "0,9998", x -> x.less(0, 9999));
        is("a member", 1, "7-9", x -> x.less(0, 8));
        is("one less than the least member", 0, "7-9", x -> x.less(0, 6));
        is("the least member", 0, "7-9", x -> x.less(0, 7));
        is("the greatest member", 2, "7-9", x -> x.less(0, 9));
        is("one more than the greatest member", 3, "7-9", x -> x.less(0, 10));
        is("60", 60, Bounds::full, x -> x.less(0, 60));
        is("59 of 60", 59, Bounds::full, x -> x.less(0, 59));
        says(NOTHING);
        keepsEverywhere("a number", x -> x.less(0, 10));
        says(FIRST);
        refusedEverywhere("no such set, ahead of number -1: set", INDEX, outside(0, 3), (x, set) -> x.less(set, -1));
        refusedEverywhere("no such set, ahead of number 10000: set", INDEX, outside(0, 3),
                (x, set) -> x.less(set, 10000));
    }

    // ---- promise 16

    private static void nearest() {
        promise("Promise 16, nearest");
        noSuchSet((x, set) -> x.nearest(set, 5));
        says("`set`: 0 to 3");
        is("set 0 is just inside", 5, () -> with(0, 5), x -> x.nearest(0, 6));
        is("set 3 is just inside", 5, () -> with(3, 5), x -> x.nearest(3, 6));
        says(NUMBER);
        refusedEverywhere("number", ARGUMENT, outside(0, 9999), (x, number) -> x.nearest(0, number));
        refusedEverywhere("number, of set 2,", ARGUMENT, outside(0, 9999), (x, number) -> x.nearest(2, number));
        says("`number`: 0 to 9999");
        is("0 is just inside", 5, "5", x -> x.nearest(0, 0));
        is("9999 is just inside", 5, "5", x -> x.nearest(0, 9999));
        says("Returns the member with the least difference, of two the lesser one; NONE if the set is empty.");
        is("an empty set", -1, Bounds::fresh, x -> x.nearest(0, 0));
        is("an emptied set", -1, "7", x -> then(x.remove(0, 7), x.nearest(0, 7)));
        is("the only member, from 0", 9999, "9999", x -> x.nearest(0, 0));
        is("the only member, from 9999", 0, "0", x -> x.nearest(0, 9999));
        is("the member itself", 7, "6-8", x -> x.nearest(0, 7));
        is("of two the lesser one, 1 from both", 6, "6,8", x -> x.nearest(0, 7));
        is("of two the lesser one, far from both", 0, "0,9998", x -> x.nearest(0, 4999));
        is("the lesser one is nearer by 1", 0, "0,9999", x -> x.nearest(0, 4999));
        is("the greater one is nearer by 1", 9999, "0,9999", x -> x.nearest(0, 5000));
        is("below the least member", 6, "6,8", x -> x.nearest(0, 0));
        is("above the greatest member", 8, "6,8", x -> x.nearest(0, 9999));
        is("above 60 members", 59, Bounds::full, x -> x.nearest(0, 9999));
        is("the least member itself", 6, "6,8", x -> x.nearest(0, 6));
        is("the greatest member itself", 8, "6,8", x -> x.nearest(0, 8));
        says(NOTHING);
        keepsEverywhere("a number", x -> x.nearest(0, 12));
        says(FIRST);
        refusedEverywhere("no such set, ahead of number -1: set", INDEX, outside(0, 3),
                (x, set) -> x.nearest(set, -1));
        refusedEverywhere("no such set, ahead of number 10000: set", INDEX, outside(0, 3),
                (x, set) -> x.nearest(set, 10000));
    }

    // ---- promise 17

    private static String blockOf(GapSets x, int set, int block) {
        StringBuilder all = new StringBuilder();
        for (int what = 0; what <= 5; what++) {
            all.append(what > 0 ? " " : "").append(x.block(set, block, what));
        }
        return all.toString();
    }

    private static void block() {
        promise("Promise 17, block");
        says("Returns the property; NONE if there are not so many.");
        is("block 0 of an empty set", "-1 -1 -1 -1 -1 -1", Bounds::fresh, x -> blockOf(x, 0, 0));
        is("block 0 of one block", "7 1 7 3 0 0", "7", x -> blockOf(x, 0, 0));
        is("block 1 of one block", "-1 -1 -1 -1 -1 -1", "7", x -> blockOf(x, 0, 1));
        is("block 1 of one full block", "-1 -1 -1 -1 -1 -1", "0-7", x -> blockOf(x, 0, 1));
        is("block 0 of two blocks", "0 8 7 10 1 0", "0-8", x -> blockOf(x, 0, 0));
        is("block 1 of two blocks", "8 1 8 3 0 8", "0-8", x -> blockOf(x, 0, 1));
        is("block 2 of two blocks", "-1 -1 -1 -1 -1 -1", "0-8", x -> blockOf(x, 0, 2));
        is("block 59 of 60", "9971 1 9971 3 0 59", () -> settings(full(), 8, 168), x -> blockOf(x, 2, 59));
        is("block 60 of 60", "-1 -1 -1 -1 -1 -1", () -> settings(full(), 8, 168), x -> blockOf(x, 2, 60));
        is("block 61 of 60", "-1 -1 -1 -1 -1 -1", () -> settings(full(), 8, 168), x -> blockOf(x, 2, 61));
        is("the greatest int of 60", "-1 -1 -1 -1 -1 -1", () -> settings(full(), 8, 168),
                x -> blockOf(x, 2, MAX));
        is("the greatest int of an empty set", "-1 -1 -1 -1 -1 -1", Bounds::fresh, x -> blockOf(x, 0, MAX));
        is("block 1 of two, behind a look at another set", "8 1 8 3 0 8", () -> sets("0-8", "5"),
                x -> then(blockOf(x, 1, 0), blockOf(x, 0, 1)));
    }

    private static void blockProperties() {
        promise("Promise 17, block");
        says("0: its base; 1: its members, how many; 2: its greatest member; 3: its bytes; 4: its greatest gap, 0 if "
                + "it has none; 5: how many members of the set are ahead of it");
        is("the members ahead of the first block", 0, "5,6", x -> x.block(0, 0, 5));
        is("the first block of some object", "10 6 141 8 127 0", Bounds::some, x -> blockOf(x, 0, 0));
        is("the second block of some object", "442 3 571 6 128 6", Bounds::some, x -> blockOf(x, 0, 1));
        is("one member, 0", "0 1 0 3 0 0", "0", x -> blockOf(x, 0, 0));
        is("one member, 9999", "9999 1 9999 3 0 0", "9999", x -> blockOf(x, 0, 0));
        is("a gap of 1", "5 2 6 4 1 0", "5,6", x -> blockOf(x, 0, 0));
        is("the greatest gap, at the width", "0 3 301 6 300 0", "0,1,301", x -> blockOf(x, 0, 0));
        is("a gap of 301 is in no block", "0 2 1 4 1 0", "0,1,302", x -> blockOf(x, 0, 0));
        is("a gap of 9999", "0 2 9999 5 9999 0", () -> settings(sets("0,9999"), 2, 9999), x -> blockOf(x, 0, 0));
        is("the greatest gap is the first one", "0 3 201 6 200 0", "0,200,201", x -> blockOf(x, 0, 0));
        is("the gap ahead of a block is not its own", "400 2 403 4 3 2", "0,9,400,403", x -> blockOf(x, 0, 1));
        is("16 members", "0 16 2535 33 169 0", () -> settings(full(), 16, 169), x -> blockOf(x, 2, 0));
        is("the last block of four", "8112 12 9971 25 169 48", () -> settings(full(), 16, 169),
                x -> blockOf(x, 2, 3));
    }

    private static void blockOutside() {
        promise("Promise 17, block");
        noSuchSet((x, set) -> x.block(set, 0, 0));
        says("`set`: 0 to 3");
        is("set 0 is just inside", 5, () -> with(0, 5), x -> x.block(0, 0, 0));
        is("set 3 is just inside", 5, () -> with(3, 5), x -> x.block(3, 0, 0));
        says("Throws `IllegalArgumentException` if block is below 0, or what is not 0 to 5");
        refusedEverywhere("block", ARGUMENT, new int[] {-1, -2, MIN}, (x, block) -> x.block(0, block, 0));
        refusedEverywhere("block, of set 2,", ARGUMENT, new int[] {-1, MIN}, (x, block) -> x.block(2, block, 5));
        refusedEverywhere("what", ARGUMENT, outside(0, 5), (x, what) -> x.block(0, 0, what));
        refusedEverywhere("what, of no block,", ARGUMENT, outside(0, 5), (x, what) -> x.block(0, 60, what));
        refusedEverywhere("what, of block -1,", ARGUMENT, outside(0, 5), (x, what) -> x.block(0, -1, what));
        is("what 0 is just inside", 7, "7-9", x -> x.block(0, 0, 0));
        is("what 5 is just inside", 0, "7-9", x -> x.block(0, 0, 5));
        is("block 0 is just inside", 3, "7-9", x -> x.block(0, 0, 1));
        says(NOTHING);
        for (int what = 0; what <= 5; what++) {
            int property = what;
            keepsEverywhere("what " + what, x -> x.block(0, 0, property));
        }
        keepsEverywhere("no such block", x -> x.block(0, MAX, 0));
        says(FIRST);
        refusedEverywhere("no such set, ahead of block -1: set", INDEX, outside(0, 3),
                (x, set) -> x.block(set, -1, 0));
        refusedEverywhere("no such set, ahead of what -1: set", INDEX, outside(0, 3),
                (x, set) -> x.block(set, 0, -1));
        refusedEverywhere("no such set, ahead of what 6: set", INDEX, outside(0, 3), (x, set) -> x.block(set, 0, 6));
    }

    // ---- promise 18

    private static void of() {
        promise("Promise 18, of");
        says("`what`: 0: members; 1: blocks; 2: its size; 3: its plain size; 4: its least member, NONE if it is "
                + "empty; 5: its greatest member, likewise; 6: longest row of members that follow one another by 1, "
                + "how many; 7: gaps of two bytes in its blocks");
        is("an empty set", "0 0 0 0 -1 -1 0 0", Bounds::fresh, x -> properties(x, 0));
        is("an emptied set", "0 0 0 0 -1 -1 0 0", Bounds::full,
                x -> then(x.removeRange(0, 0, 9999), properties(x, 0)));
        is("0 alone", "1 1 3 2 0 0 1 0", "0", x -> properties(x, 0));
        is("9999 alone", "1 1 3 2 9999 9999 1 0", "9999", x -> properties(x, 0));
        is("0 and 9999", "2 2 6 4 0 9999 1 0", "0,9999", x -> properties(x, 0));
        is("0 and 9999 in one block", "2 1 5 4 0 9999 1 1", () -> settings(sets("0,9999"), 2, 9999),
                x -> properties(x, 0));
        is("some members", "9 2 14 18 10 571 4 1", Bounds::some, x -> properties(x, 0));
        is("60 members", "60 8 76 120 0 59 60 0", Bounds::full, x -> properties(x, 0));
        is("60 members in 60 blocks", "60 60 180 120 0 9971 1 0", () -> settings(full(), 16, 168),
                x -> properties(x, 2));
        is("60 members in 4 blocks, wide gaps alone", "60 4 124 120 0 9971 1 56", () -> settings(full(), 16, 169),
                x -> properties(x, 2));
    }

    private static void ofRows() {
        promise("Promise 18, of");
        says("6: longest row of members that follow one another by 1, how many");
        is("none", 0, Bounds::fresh, x -> x.of(0, 6));
        is("one member", 1, "7", x -> x.of(0, 6));
        is("a gap of 1", 2, "7,8", x -> x.of(0, 6));
        is("a gap of 2", 1, "7,9", x -> x.of(0, 6));
        is("the first row", 3, "1-3,5-6,8", x -> x.of(0, 6));
        is("the row between", 3, "1,3-5,7-8", x -> x.of(0, 6));
        is("the last row", 3, "1,3-4,6-8", x -> x.of(0, 6));
        is("two rows of 2", 2, "1-2,4-5", x -> x.of(0, 6));
        is("on both sides of a block's end", 9, "0-8", x -> x.of(0, 6));
        is("up to 9999", 3, "5,9997-9999", x -> x.of(0, 6));
        is("60", 60, Bounds::full, x -> x.of(1, 6));
    }

    private static void ofWideGaps() {
        promise("Promise 18, of");
        says("7: gaps of two bytes in its blocks");
        is("none", 0, Bounds::fresh, x -> x.of(0, 7));
        is("a gap of 127", 0, "0,127", x -> x.of(0, 7));
        is("a gap of 128", 1, "0,128", x -> x.of(0, 7));
        is("a gap at the width", 1, "0,300", x -> x.of(0, 7));
        is("a gap above the width", 0, "0,301", x -> x.of(0, 7));
        is("a gap of 128 behind a full block", 0, "0-7,135", x -> x.of(0, 7));
        is("a gap of 128 ahead of a full block's last member", 1, "0-6,134,135", x -> x.of(0, 7));
        is("in two blocks", 2, "0,128,500,628", x -> x.of(0, 7));
    }

    private static void ofOutside() {
        promise("Promise 18, of");
        noSuchSet((x, set) -> x.of(set, 0));
        says("`set`: 0 to 3");
        is("set 0 is just inside", 1, () -> with(0, 5), x -> x.of(0, 0));
        is("set 3 is just inside", 1, () -> with(3, 5), x -> x.of(3, 0));
        says("Throws `IllegalArgumentException` if what is not 0 to 7");
        refusedEverywhere("what", ARGUMENT, outside(0, 7), (x, what) -> x.of(0, what));
        refusedEverywhere("what, of set 2,", ARGUMENT, outside(0, 7), (x, what) -> x.of(2, what));
        is("what 0 is just inside", 3, "7-9", x -> x.of(0, 0));
        is("what 7 is just inside", 0, "7-9", x -> x.of(0, 7));
        says(NOTHING);
        for (int what = 0; what <= 7; what++) {
            int property = what;
            keepsEverywhere("what " + what, x -> x.of(0, property));
        }
        says(FIRST);
        refusedEverywhere("no such set, ahead of what -1: set", INDEX, outside(0, 3), (x, set) -> x.of(set, -1));
        refusedEverywhere("no such set, ahead of what 8: set", INDEX, outside(0, 3), (x, set) -> x.of(set, 8));
    }

    // ---- promise 19

    private static void leaps() {
        promise("Promise 19, leaps");
        noSuchSet((x, set) -> x.leaps(set, 0, 0));
        noSuchSet((x, set) -> x.leaps(0, set, 0));
        says("`one`: the first set, 0 to 3");
        is("0 is just inside", "1 0 1 1", () -> put(with(0, 5), 1, 5), x -> leaps(x, 0, 1));
        is("3 is just inside", "1 0 1 1", () -> put(with(3, 5), 1, 5), x -> leaps(x, 3, 1));
        says("`other`: the second set, 0 to 3");
        is("0 is just inside", "1 0 1 1", () -> put(with(0, 5), 1, 5), x -> leaps(x, 1, 0));
        is("3 is just inside", "1 0 1 1", () -> put(with(3, 5), 1, 5), x -> leaps(x, 1, 3));
        is("the same set twice", "1 0 1 1", () -> with(2, 5), x -> leaps(x, 2, 2));
        says("Throws `IllegalArgumentException` if what is not 0 to 3");
        refusedEverywhere("what", ARGUMENT, outside(0, 3), (x, what) -> x.leaps(0, 1, what));
        refusedEverywhere("what, of set 2 twice,", ARGUMENT, outside(0, 3), (x, what) -> x.leaps(2, 2, what));
        says("0: how many common members there are; 1: leaps in the first set (also one that finds nothing); 2: leaps "
                + "in the second set (likewise); 3: looks of all leaps");
        is("both are empty", "0 0 0 0", Bounds::fresh, x -> leaps(x, 0, 1));
        is("the first one is empty", "0 0 0 0", "5", x -> leaps(x, 1, 0));
        is("the second one is empty: a leap that finds nothing", "0 0 1 0", "5", x -> leaps(x, 0, 1));
        is("a leap in the first set that finds nothing", "0 1 1 2", () -> sets("5", "6"), x -> leaps(x, 0, 1));
        is("a leap in the second set that finds nothing", "0 0 1 1", () -> sets("6", "5"), x -> leaps(x, 0, 1));
        is("60 common members", 60, Bounds::full, x -> x.leaps(0, 0, 0));
        is("60 leaps in the second set, none in the first one", "0 60", Bounds::full,
                x -> x.leaps(1, 1, 1) + " " + x.leaps(1, 1, 2));
        is("30 common members", 30, Bounds::full, x -> x.leaps(0, 3, 0));
        // 0: member 30. First set: bases 8 16 24 32, members 24 to 30. 30: member 30. 31: member 30.
        is("a leap over blocks in the first set", "1 1 3 14", () -> sets("0-59", "30"), x -> leaps(x, 0, 1));
        says(NOTHING);
        for (int what = 0; what <= 3; what++) {
            int property = what;
            keepsEverywhere("what " + what, x -> x.leaps(0, 1, property));
        }
        says(FIRST);
        refusedEverywhere("ahead of what -1, one", INDEX, outside(0, 3), (x, set) -> x.leaps(set, 0, -1));
        refusedEverywhere("ahead of what 4, other", INDEX, outside(0, 3), (x, set) -> x.leaps(0, set, 4));
    }

    // ---- promise 20

    private static void countMembers() {
        promise("Promise 20, count");
        says("0: members of all sets; 1: unlike members of all sets together; 2: members that all four sets have");
        is("members, none", 0, Bounds::fresh, x -> x.count(0));
        is("members, 240", 240, Bounds::full, x -> x.count(0));
        is("members, the same one in two sets", 2, () -> sets("5", "5"), x -> x.count(0));
        is("unlike members, none", 0, Bounds::fresh, x -> x.count(1));
        is("unlike members, 240", 240, () -> fullAndUnlike(), x -> x.count(1));
        is("unlike members, the same ones in all sets", 2, () -> sets("5,6", "5,6", "5,6", "5,6"), x -> x.count(1));
        is("unlike members, the same one in the first and the last set", 1, () -> sets("5", "", "", "5"),
                x -> x.count(1));
        is("unlike members, 60 in all sets", 60, () -> sets("0-59", "0-59", "0-59", "0-59"), x -> x.count(1));
        is("members of all four, all empty", 0, Bounds::fresh, x -> x.count(2));
        is("members of all four, 60", 60, () -> sets("0-59", "0-59", "0-59", "0-59"), x -> x.count(2));
        is("members of all four, none of 240", 0, () -> fullAndUnlike(), x -> x.count(2));
        is("members of all four, 0 and 9999", 2, () -> sets("0,9999", "0,9999", "0,9999", "0,9999"),
                x -> x.count(2));
        for (int set = 0; set < 4; set++) {
            int without = set;
            is("members of all but set " + without, 0, () -> sets("5", "5", "5", "5"),
                    x -> then(x.remove(without, 5), x.count(2)));
        }
    }

    private static void countBlocksAndPairs() {
        promise("Promise 20, count");
        says("3: sizes of all sets; 4: blocks of all sets; 5: pairs of sets that have the same members");
        is("sizes, none", 0, Bounds::fresh, x -> x.count(3));
        is("sizes of four members", 12, () -> sets("0", "0", "0", "0"), x -> x.count(3));
        is("sizes of some object", 14 + 3 + 1 + 3 + 3 + 3, Bounds::some, x -> x.count(3));
        is("sizes of full sets", 76 + 76 + 7 * (3 + 14) + (3 + 6) + 76, Bounds::full, x -> x.count(3));
        is("blocks, none", 0, Bounds::fresh, x -> x.count(4));
        is("blocks of four members", 4, () -> sets("0", "0", "0", "0"), x -> x.count(4));
        is("blocks of full sets", 32, Bounds::full, x -> x.count(4));
        is("blocks, most of them", 60 + 3 * 30, () -> settings(full(), 2, 1), x -> x.count(4));
        is("pairs of empty sets", 6, Bounds::fresh, x -> x.count(5));
        is("pairs, one set has a member", 3, "5", x -> x.count(5));
        is("pairs, two sets have it", 2, () -> sets("5", "5"), x -> x.count(5));
        is("pairs, three sets have it", 3, () -> sets("5", "5", "5"), x -> x.count(5));
        is("pairs, four sets have it", 6, () -> sets("5", "5", "5", "5"), x -> x.count(5));
        is("pairs, none", 0, () -> sets("5", "6", "7", "8"), x -> x.count(5));
        is("pairs, the first and the last set", 1, () -> sets("5", "6", "7", "5"), x -> x.count(5));
        is("pairs, the third and the last set", 1, () -> sets("5", "6", "7", "7"), x -> x.count(5));
        is("pairs, one has one more", 0, () -> sets("5", "5,6", "5-7", "5-8"), x -> x.count(5));
        is("pairs, unlike in the last member", 0, () -> sets("5,6", "5,7", "5,8", "5,9"), x -> x.count(5));
        is("pairs, unlike in the 60th", 0, () -> sets("0-59", "0-58,60", "0-58,61", "0-58,62"), x -> x.count(5));
        is("pairs of 60", 6, () -> sets("0-59", "0-59", "0-59", "0-59"), x -> x.count(5));
    }

    private static void countSaved() {
        promise("Promise 20, count");
        says("6: saved states");
        is("none", 0, Bounds::fresh, x -> x.count(6));
        for (int saved = 1; saved <= 8; saved++) {
            int calls = saved;
            is("behind " + calls + " calls", Math.min(calls, 6), Bounds::fresh, x -> {
                for (int call = 0; call < calls; call++) {
                    x.remove(0, 0);
                }
                return x.count(6);
            });
        }
        is("a full one, undone once", 5, Bounds::full, x -> then(x.undo(), x.count(6)));
    }

    private static void countOutside() {
        promise("Promise 20, count");
        says("Throws `IllegalArgumentException` if what is not 0 to 6");
        refusedEverywhere("what", ARGUMENT, outside(0, 6), (x, what) -> x.count(what));
        is("what 0 is just inside", 3, "7-9", x -> x.count(0));
        is("what 6 is just inside", 1, "7-9", x -> x.count(6));
        says(NOTHING);
        for (int what = 0; what <= 6; what++) {
            int property = what;
            keepsEverywhere("what " + what, x -> x.count(property));
        }
    }

    // ---- promise 21

    private static void setting() {
        promise("Promise 21, setting");
        says("Throws `IndexOutOfBoundsException` if there is no such setting");
        refusedEverywhere("setting", INDEX, outside(0, 1), (x, setting) -> x.setting(setting));
        says("`setting`: 0 or 1");
        is("0 is just inside", 8, Bounds::fresh, x -> x.setting(0));
        is("1 is just inside", 300, Bounds::fresh, x -> x.setting(1));
        says("Returns its value.");
        is("the least ones", "2 1", () -> settings(fresh(), 2, 1), x -> x.setting(0) + " " + x.setting(1));
        is("the greatest ones", "16 9999", () -> settings(fresh(), 16, 9999),
                x -> x.setting(0) + " " + x.setting(1));
        is("behind a refused value", "8 300", Bounds::fresh, x -> {
            Check.badArgument("17", () -> x.set(0, 17));
            Check.badArgument("10000", () -> x.set(1, 10000));
            return x.setting(0) + " " + x.setting(1);
        });
        says(NOTHING);
        keepsEverywhere("0", x -> x.setting(0));
        keepsEverywhere("1", x -> x.setting(1));
    }
}
