/** The boundary cases of promises 1 to 7: a new object, and the calls that change members and settings. */
public final class MembersBoundsTest extends Bounds {
    private MembersBoundsTest() {
    }

    public static void main(String[] args) {
        newObject();
        add();
        addToFullSets();
        remove();
        removeRange();
        removeRangeOutside();
        shift();
        shiftOutside();
        combine();
        combineOfFullSets();
        combineOutside();
        set();
        setOutside();
        Check.end();
    }

    private static void is(String theCase, Object due, String text, Use use) {
        is(theCase, due, () -> sets(text), use);
    }

    private static void newObject() {
        promise("Promise 1, a new object");
        says("`NONE = -1`: There is nothing to return.");
        is("the constant", -1, Bounds::fresh, x -> GapSets.NONE);
        says("Creates empty sets, with an empty buffer.");
        for (int set = 0; set < 4; set++) {
            int n = set;
            is("set " + n + " is empty", "0 0 0 0 -1 -1 0 0", Bounds::fresh, x -> properties(x, n));
        }
        is("the buffer is empty", 0, Bounds::fresh, x -> x.clearBuffer());
        is("no state is saved", 0, Bounds::fresh, x -> x.count(6));
        is("setting 0", 8, Bounds::fresh, x -> x.setting(0));
        is("setting 1", 300, Bounds::fresh, x -> x.setting(1));
        is("made beside a full object", lookOf(fresh()) + "0", Bounds::full, x -> {
            GapSets other = new GapSets();
            return lookOf(other) + other.clearBuffer();
        });
        is("filled beside another new object", 0, Bounds::fresh, x -> {
            full();
            return x.count(0) + x.count(6) + x.clearBuffer();
        });
    }

    // ---- promise 2

    private static void add() {
        promise("Promise 2, add");
        noSuchSet((x, set) -> x.add(set, 5));
        says("`set`: 0 to 3");
        is("set 0 is just inside", 1, Bounds::fresh, x -> x.add(0, 5) * x.has(0, 5));
        is("set 3 is just inside", 1, Bounds::fresh, x -> x.add(3, 5) * x.has(3, 5));
        says("Throws `IllegalArgumentException` if number is out of range");
        refusedEverywhere("number", ARGUMENT, outside(0, 9999), (x, number) -> x.add(0, number));
        says("`number`: 0 to 9999");
        is("number 0 is just inside", "0", () -> with(1, 0), x -> members(x, 1));
        is("number 9999 is just inside", "9999", () -> with(1, 9999), x -> members(x, 1));
        says("Returns 1 if it was not a member, otherwise 0.");
        is("the first member", 1, Bounds::fresh, x -> x.add(0, 7));
        is("a member", 0, "7", x -> x.add(0, 7));
        is("the least member", 0, "7-9", x -> x.add(0, 7));
        is("the greatest member", 0, "7-9", x -> x.add(0, 9));
        is("below the least member", 1, "7-9", x -> x.add(0, 6));
        is("above the greatest member", 1, "7-9", x -> x.add(0, 10));
        is("between two members", 1, "7,9", x -> x.add(0, 8));
        is("a member of another set", 1, "7", x -> x.add(1, 7));
        is("one that was removed", 1, "7", x -> x.remove(0, 7) * x.add(0, 7));
        is("the members are in order", "6 7 8 9 10", "7,9", x -> members(put(x, 0, 8, 10, 6, 7), 0));
    }

    private static void addToFullSets() {
        promise("Promise 2, add");
        says("Throws `IllegalStateException` if it is not a member, and the set has 60 members");
        is("the 60th member", 1, "0-58", x -> x.add(0, 9999));
        is("the 60th member is there", 60, "0-58", x -> then(x.add(0, 9999), x.of(0, 0)));
        for (int set = 0; set < 4; set++) {
            int n = set;
            refused("the 61st member of set " + n, STATE, Bounds::full, x -> x.add(n, 8000));
        }
        refused("0 as the 61st member", STATE, () -> sets("1-60"), x -> x.add(0, 0));
        refused("9999 as the 61st member", STATE, () -> sets("1-60"), x -> x.add(0, 9999));
        is("a member of a full set", 0, Bounds::full, x -> x.add(0, 59));
        saves("a member of a full set", () -> sets("0-59"), x -> x.add(0, 0));
        is("an empty set beside a full one", 1, "0-59", x -> x.add(1, 60));
        is("a full set that has lost a member", 1, "0-59", x -> x.remove(0, 30) * x.add(0, 60));
        says("If several exceptions apply, the one that is named first in the throws clause is thrown.");
        refusedEverywhere("no such set, ahead of number -1: set", INDEX, outside(0, 3), (x, set) -> x.add(set, -1));
        refusedEverywhere("no such set, ahead of number 10000: set", INDEX, outside(0, 3),
                (x, set) -> x.add(set, 10000));
        refused("number -1, ahead of the full set", ARGUMENT, Bounds::full, x -> x.add(0, -1));
        refused("number 10000, ahead of the full set", ARGUMENT, Bounds::full, x -> x.add(0, 10000));
        says("Adds a number to a set. Undoable.");
        saves("a new member", Bounds::some, x -> x.add(2, 9999));
        saves("a member", Bounds::some, x -> x.add(0, 10));
    }

    // ---- promise 3

    private static void remove() {
        promise("Promise 3, remove");
        noSuchSet((x, set) -> x.remove(set, 5));
        says("`set`: 0 to 3");
        is("set 0 is just inside", 1, () -> with(0, 5), x -> x.remove(0, 5));
        is("set 3 is just inside", 1, () -> with(3, 5), x -> x.remove(3, 5));
        says("Throws `IllegalArgumentException` if number is out of range");
        refusedEverywhere("number", ARGUMENT, outside(0, 9999), (x, number) -> x.remove(0, number));
        says("`number`: 0 to 9999");
        is("number 0 is just inside", 1, "0,9999", x -> x.remove(0, 0));
        is("number 9999 is just inside", 1, "0,9999", x -> x.remove(0, 9999));
        says("Returns 1 if it was a member, otherwise 0.");
        is("of an empty set", 0, Bounds::fresh, x -> x.remove(0, 0));
        is("the only member", "1 ", "7", x -> x.remove(0, 7) + " " + members(x, 0));
        is("the least member", "1 8 9", "7-9", x -> x.remove(0, 7) + " " + members(x, 0));
        is("the greatest member", "1 7 8", "7-9", x -> x.remove(0, 9) + " " + members(x, 0));
        is("one between", "1 7 9", "7-9", x -> x.remove(0, 8) + " " + members(x, 0));
        is("one less than the least member", "0 7 8 9", "7-9", x -> x.remove(0, 6) + " " + members(x, 0));
        is("one more than the greatest member", "0 7 8 9", "7-9", x -> x.remove(0, 10) + " " + members(x, 0));
        is("twice", 1, "7-9", x -> x.remove(0, 8) + x.remove(0, 8));
        is("a member of another set", 0, "7", x -> x.remove(1, 7));
        is("of a full set", 59, Bounds::full, x -> then(x.remove(0, 59), x.of(0, 0)));
        says("If several exceptions apply, the one that is named first in the throws clause is thrown.");
        refusedEverywhere("no such set, ahead of number -1: set", INDEX, outside(0, 3),
                (x, set) -> x.remove(set, -1));
        refusedEverywhere("no such set, ahead of number 10000: set", INDEX, outside(0, 3),
                (x, set) -> x.remove(set, 10000));
        says("Removes a number from a set. Undoable.");
        saves("a member", Bounds::some, x -> x.remove(1, 9000));
        saves("a number that is no member", Bounds::some, x -> x.remove(1, 8999));
        saves("of an empty set", Bounds::fresh, x -> x.remove(1, 5));
    }

    // ---- promise 4

    private static void removes(String theCase, String due, int from, int to) {
        is(theCase, due, "0,4-6,10,9999", x -> x.removeRange(0, from, to) + ": " + members(x, 0));
    }

    private static void removeRange() {
        promise("Promise 4, removeRange");
        says("Removes all numbers of a range from a set. Undoable.");
        removes("from is a member", "3: 0 10 9999", 4, 7);
        removes("from is one more than a member", "2: 0 4 10 9999", 5, 7);
        removes("to is a member", "3: 0 10 9999", 3, 6);
        removes("to is one less than a member", "2: 0 6 10 9999", 3, 5);
        removes("just one member", "1: 0 4 6 10 9999", 5, 5);
        removes("between members", "0: 0 4 5 6 10 9999", 7, 9);
        removes("all", "6: ", 0, 9999);
        saves("three members", () -> sets("0,4-6"), x -> x.removeRange(0, 4, 6));
        saves("no member", () -> sets("0,4-6"), x -> x.removeRange(0, 7, 9999));
        says("Returns how many members are removed.");
        is("none of an empty set", 0, Bounds::fresh, x -> x.removeRange(0, 0, 9999));
        is("60", 60, Bounds::full, x -> x.removeRange(2, 0, 9999));
        is("60, and the set is empty", 0, Bounds::full, x -> then(x.removeRange(2, 0, 9999), x.of(2, 0)));
        is("the other sets stay", 180, Bounds::full, x -> then(x.removeRange(2, 0, 9999), x.count(0)));
        says("`from`: 0 to 9999");
        removes("0 is just inside", "1: 4 5 6 10 9999", 0, 3);
        removes("9999 is just inside", "1: 0 4 5 6 10", 9999, 9999);
        says("`to`: from to 9999");
        removes("from is just inside", "1: 0 4 5 6 9999", 10, 10);
        removes("from is just inside, at 0", "1: 4 5 6 10 9999", 0, 0);
        removes("9999 is just inside", "1: 0 4 5 6 10", 11, 9999);
        removes("9998 leaves 9999", "0: 0 4 5 6 10 9999", 11, 9998);
    }

    private static void removeRangeOutside() {
        promise("Promise 4, removeRange");
        noSuchSet((x, set) -> x.removeRange(set, 0, 9999));
        says("`set`: 0 to 3");
        is("set 0 is just inside", 1, () -> with(0, 5), x -> x.removeRange(0, 0, 9999));
        is("set 3 is just inside", 1, () -> with(3, 5), x -> x.removeRange(3, 0, 9999));
        says("Throws `IllegalArgumentException` if another argument is out of range");
        refusedEverywhere("from", ARGUMENT, outside(0, 9999), (x, from) -> x.removeRange(0, from, 9999));
        refusedEverywhere("from as to", ARGUMENT, outside(0, 9999), (x, from) -> x.removeRange(0, from, from));
        refusedEverywhere("to", ARGUMENT, outside(0, 9999), (x, to) -> x.removeRange(0, 0, to));
        refusedEverywhere("to behind 9999", ARGUMENT, outside(9999, 9999), (x, to) -> x.removeRange(0, 9999, to));
        refusedEverywhere("to, one less than from", ARGUMENT, new int[] {0, 5, 9998},
                (x, to) -> x.removeRange(0, to + 1, to));
        says("If several exceptions apply, the one that is named first in the throws clause is thrown.");
        refusedEverywhere("no such set, ahead of from: set", INDEX, outside(0, 3),
                (x, set) -> x.removeRange(set, -1, 5));
        refusedEverywhere("no such set, ahead of to: set", INDEX, outside(0, 3),
                (x, set) -> x.removeRange(set, 5, 10000));
        refusedEverywhere("no such set, ahead of from above to: set", INDEX, outside(0, 3),
                (x, set) -> x.removeRange(set, 6, 5));
    }

    // ---- promise 5

    private static void shift() {
        promise("Promise 5, shift");
        says("Returns the least member then, NONE if the set is empty.");
        is("up by 1", "8: 8 9 11", "7,8,10", x -> x.shift(0, 1) + ": " + members(x, 0));
        is("down by 1", "6: 6 7 9", "7,8,10", x -> x.shift(0, -1) + ": " + members(x, 0));
        is("by 0", "7: 7 8 10", "7,8,10", x -> x.shift(0, 0) + ": " + members(x, 0));
        is("one member, up as far as it goes", 9999, "0", x -> x.shift(0, 9999));
        is("one member, down as far as it goes", 0, "9999", x -> x.shift(0, -9999));
        is("an empty set", -1, Bounds::fresh, x -> x.shift(0, 1));
        is("an empty set by 0", -1, Bounds::fresh, x -> x.shift(0, 0));
        is("an empty set by 9999", -1, Bounds::fresh, x -> x.shift(0, 9999));
        is("an empty set by -9999", -1, Bounds::fresh, x -> x.shift(0, -9999));
        is("60 members", "9940 9999 60", Bounds::full,
                x -> x.shift(0, 9940) + " " + x.of(0, 5) + " " + x.of(0, 0));
        is("another set stays", 30, Bounds::full, x -> then(x.shift(0, 9), x.of(3, 4)));
        says("Throws `IllegalStateException` if a member would be below 0 or above 9999");
        is("the least member to 0", "0 5", "7,12", x -> x.shift(0, -7) + " " + x.of(0, 5));
        refused("the least member to -1", STATE, () -> sets("7,12"), x -> x.shift(0, -8));
        refused("0 to -1", STATE, () -> sets("0,12"), x -> x.shift(0, -1));
        refused("0 to -9999", STATE, () -> sets("0"), x -> x.shift(0, -9999));
        refused("just the least member below 0", STATE, () -> sets("0,9998"), x -> x.shift(0, -1));
        is("the greatest member to 9999", "9994 9999", "7,12", x -> x.shift(0, 9987) + " " + x.of(0, 5));
        refused("the greatest member to 10000", STATE, () -> sets("7,12"), x -> x.shift(0, 9988));
        refused("9999 to 10000", STATE, () -> sets("12,9999"), x -> x.shift(0, 1));
        refused("9999 to 19998", STATE, () -> sets("9999"), x -> x.shift(0, 9999));
        refused("just the greatest member above 9999", STATE, () -> sets("1,9999"), x -> x.shift(0, 1));
        is("0 and 9999 by 0", 0, "0,9999", x -> x.shift(0, 0));
        refused("in a full object", STATE, Bounds::full, x -> x.shift(1, 1));
        refused("in some object", STATE, Bounds::some, x -> x.shift(1, 1000));
        is("in some object, one less", 1010, Bounds::some, x -> x.shift(1, 999));
    }

    private static void shiftOutside() {
        promise("Promise 5, shift");
        noSuchSet((x, set) -> x.shift(set, 0));
        says("`set`: 0 to 3");
        is("set 0 is just inside", 6, () -> with(0, 5), x -> x.shift(0, 1));
        is("set 3 is just inside", 6, () -> with(3, 5), x -> x.shift(3, 1));
        says("Throws `IllegalArgumentException` if by is out of range");
        refusedEverywhere("by, of set 0,", ARGUMENT, outside(-9999, 9999), (x, by) -> x.shift(0, by));
        refusedEverywhere("by, of set 2,", ARGUMENT, outside(-9999, 9999), (x, by) -> x.shift(2, by));
        says("`by`: -9999 to 9999");
        is("-9999 is just inside", "0", "9999", x -> then(x.shift(0, -9999), members(x, 0)));
        is("9999 is just inside", "9999", "0", x -> then(x.shift(0, 9999), members(x, 0)));
        says("If several exceptions apply, the one that is named first in the throws clause is thrown.");
        refusedEverywhere("no such set, ahead of by 10000: set", INDEX, outside(0, 3),
                (x, set) -> x.shift(set, 10000));
        refusedEverywhere("no such set, ahead of by -10000: set", INDEX, outside(0, 3),
                (x, set) -> x.shift(set, -10000));
        refused("by 10000, ahead of a member above 9999", ARGUMENT, () -> sets("0"), x -> x.shift(0, 10000));
        refused("by -10000, ahead of a member below 0", ARGUMENT, () -> sets("0"), x -> x.shift(0, -10000));
        says("Moves all members of a set by the same number. Undoable.");
        saves("by 1", Bounds::some, x -> x.shift(0, 1));
        saves("by 0", Bounds::some, x -> x.shift(0, 0));
        saves("of an empty set", Bounds::some, x -> x.shift(2, 0));
    }

    // ---- promise 6

    private static void combines(String theCase, String due, String one, String other, int how) {
        is(theCase + ", how " + how, due, () -> sets(one, other, "77"),
                x -> x.combine(2, 0, 1, how) + ": " + members(x, 2));
    }

    private static void combine() {
        promise("Promise 6, combine");
        says("`how`: 0: the members of one or of the other one, or of both; 1: of both; 2: of the one and not of "
                + "the other one; 3: of just one of both");
        combines("two sets", "5: 1 2 3 9 10", "1-3,9", "2,9,10", 0);
        combines("two sets", "2: 2 9", "1-3,9", "2,9,10", 1);
        combines("two sets", "2: 1 3", "1-3,9", "2,9,10", 2);
        combines("two sets", "3: 1 3 10", "1-3,9", "2,9,10", 3);
        combines("the ends", "2: 0 9999", "0", "9999", 0);
        combines("the ends", "0: ", "0", "9999", 1);
        combines("the ends", "1: 0", "0", "9999", 2);
        combines("the ends", "2: 0 9999", "0", "9999", 3);
        for (int how = 0; how <= 3; how++) {
            combines("two empty sets", "0: ", "", "", how);
            combines("an empty first one", how % 3 == 0 ? "2: 5 6" : "0: ", "", "5,6", how);
            combines("an empty other one", how == 1 ? "0: " : "2: 5 6", "5,6", "", how);
            combines("the same members", how < 2 ? "2: 5 6" : "0: ", "5,6", "5,6", how);
        }
        says("Makes a set of two sets. Undoable.");
        is("into the first one", "3: 1 3 10", () -> sets("1-3,9", "2,9,10"),
                x -> x.combine(0, 0, 1, 3) + ": " + members(x, 0));
        is("into the other one", "2: 1 3", () -> sets("1-3,9", "2,9,10"),
                x -> x.combine(1, 0, 1, 2) + ": " + members(x, 1));
        is("with itself into itself, of both", "2: 5 6", "5,6", x -> x.combine(0, 0, 0, 1) + ": " + members(x, 0));
        is("with itself into itself, of just one", "0: ", "5,6", x -> x.combine(0, 0, 0, 3) + ": " + members(x, 0));
        is("the two sets stay", "1 2 3 9 / 2 9 10", () -> sets("1-3,9", "2,9,10"),
                x -> then(x.combine(2, 0, 1, 3), members(x, 0) + " / " + members(x, 1)));
        combineAgain();
        saves("another set", Bounds::some, x -> x.combine(2, 0, 1, 0));
        saves("the same set", Bounds::some, x -> x.combine(1, 1, 1, 0));
        saves("an empty set", Bounds::fresh, x -> x.combine(1, 1, 1, 0));
    }

    /** Nothing is left of what another call has made of the sets. */
    private static void combineAgain() {
        is("behind a combine of 60", "2: 5 6", () -> sets("0-59", "5", "6"),
                x -> then(x.combine(3, 0, 0, 0), x.combine(3, 1, 2, 0) + ": " + members(x, 3)));
        is("behind a refused combine", "2: 60 61", () -> sets("0-59", "60", "61"), x -> {
            Check.badState("61 members", () -> x.combine(3, 0, 1, 0));
            return x.combine(3, 1, 2, 0) + ": " + members(x, 3);
        });
        is("behind ifAdded", "2: 5 6", () -> sets("0-59", "5", "6"),
                x -> then(x.ifAdded(0, 9999), x.combine(3, 1, 2, 0) + ": " + members(x, 3)));
        is("behind dearest", "0: ", () -> sets("0-59", "5", "6"),
                x -> then(x.dearest(0, 0), x.combine(3, 1, 2, 1) + ": " + members(x, 3)));
    }

    private static void combineOfFullSets() {
        promise("Promise 6, combine");
        says("Throws `IllegalStateException` if it would have more than 60 members");
        is("60 of one or the other", 60, () -> sets("0-29", "30-59"), x -> x.combine(2, 0, 1, 0));
        is("60 of just one", 60, () -> sets("0-29", "30-59"), x -> x.combine(2, 0, 1, 3));
        refused("61 of one or the other", STATE, () -> sets("0-29", "30-60"), x -> x.combine(2, 0, 1, 0));
        refused("61 of just one", STATE, () -> sets("0-30", "31-61"), x -> x.combine(2, 0, 1, 3));
        refused("61 into the first one", STATE, () -> sets("0-59", "60"), x -> x.combine(0, 0, 1, 0));
        refused("61 into the other one", STATE, () -> sets("0-59", "60"), x -> x.combine(1, 0, 1, 0));
        refused("61, the first set has the one", STATE, () -> sets("60", "0-59"), x -> x.combine(2, 0, 1, 3));
        is("60 of one or the other, one of both", 60, () -> sets("0-30", "30-59"), x -> x.combine(2, 0, 1, 0));
        refused("120", STATE, () -> sets("0-59", "60-119"), x -> x.combine(2, 0, 1, 0));
        refused("120 of just one", STATE, () -> sets("0-59", "60-119"), x -> x.combine(2, 0, 1, 3));
        is("60 that are none of the other one", 60, () -> sets("0-59", "60-119"), x -> x.combine(2, 0, 1, 2));
        is("none of 60 and 60", 0, () -> sets("0-59", "60-119"), x -> x.combine(2, 0, 1, 1));
        is("60 of both", 60, () -> sets("0-59", "0-59"), x -> x.combine(2, 0, 1, 1));
        is("a full set with itself", 60, Bounds::full, x -> x.combine(0, 0, 0, 0));
        refused("in a full object", STATE, Bounds::full, x -> x.combine(2, 0, 1, 3));
        says("Returns how many members it has then.");
        is("none", 0, Bounds::full, x -> x.combine(2, 0, 1, 1) + x.of(2, 0));
        is("60", 60, Bounds::full, x -> x.combine(2, 0, 0, 0) * x.has(2, 59));
    }

    private static void combineOutside() {
        promise("Promise 6, combine");
        noSuchSet((x, set) -> x.combine(set, 0, 0, 0));
        noSuchSet((x, set) -> x.combine(0, set, 0, 0));
        noSuchSet((x, set) -> x.combine(0, 0, set, 0));
        says("`to`: the set that becomes another one, 0 to 3");
        is("0 is just inside", 1, () -> with(1, 5), x -> x.combine(0, 1, 1, 0) * x.has(0, 5));
        is("3 is just inside", 1, () -> with(1, 5), x -> x.combine(3, 1, 1, 0) * x.has(3, 5));
        says("`one`: 0 to 3");
        is("0 is just inside", 1, () -> with(0, 5), x -> x.combine(1, 0, 2, 0));
        is("3 is just inside", 1, () -> with(3, 5), x -> x.combine(1, 3, 2, 0));
        says("`other`: 0 to 3");
        is("0 is just inside", 1, () -> with(0, 5), x -> x.combine(1, 2, 0, 0));
        is("3 is just inside", 1, () -> with(3, 5), x -> x.combine(1, 2, 3, 0));
        says("Throws `IllegalArgumentException` if how is out of range");
        refusedEverywhere("how", ARGUMENT, outside(0, 3), (x, how) -> x.combine(0, 0, 0, how));
        refusedEverywhere("how, of two sets", ARGUMENT, outside(0, 3), (x, how) -> x.combine(2, 1, 3, how));
        is("how 0 is just inside", 2, () -> sets("5", "6"), x -> x.combine(2, 0, 1, 0));
        is("how 3 is just inside", 2, () -> sets("5", "6"), x -> x.combine(2, 0, 1, 3));
        says("If several exceptions apply, the one that is named first in the throws clause is thrown.");
        int[] sets = outside(0, 3);
        refusedEverywhere("ahead of how -1, to", INDEX, sets, (x, set) -> x.combine(set, 0, 0, -1));
        refusedEverywhere("ahead of how 4, one", INDEX, sets, (x, set) -> x.combine(0, set, 0, 4));
        refusedEverywhere("ahead of how 4, other", INDEX, sets, (x, set) -> x.combine(0, 0, set, 4));
        refused("no such set, ahead of 120 members", INDEX, Bounds::full, x -> x.combine(4, 0, 1, 0));
        refused("how 4, ahead of 120 members", ARGUMENT, Bounds::full, x -> x.combine(2, 0, 1, 4));
        refused("how -1, ahead of 120 members", ARGUMENT, Bounds::full, x -> x.combine(2, 0, 1, -1));
    }

    // ---- promise 7

    private static void set() {
        promise("Promise 7, set");
        says("Returns the previous value.");
        is("of setting 0 at first", 8, Bounds::fresh, x -> x.set(0, 2));
        is("of setting 1 at first", 300, Bounds::fresh, x -> x.set(1, 1));
        is("of setting 0, 2", 2, () -> settings(fresh(), 2, 1), x -> x.set(0, 16));
        is("of setting 0, 16", 16, () -> settings(fresh(), 16, 1), x -> x.set(0, 2));
        is("of setting 1, 1", 1, () -> settings(fresh(), 2, 1), x -> x.set(1, 9999));
        is("of setting 1, 9999", 9999, () -> settings(fresh(), 2, 9999), x -> x.set(1, 1));
        is("the same value", 8, Bounds::fresh, x -> x.set(0, 8));
        says("`value`: the new value");
        for (int value = 2; value <= 16; value++) {
            int most = value;
            is("setting 0, " + most + " is inside", most + " 300", Bounds::fresh,
                    x -> then(x.set(0, most), x.setting(0) + " " + x.setting(1)));
        }
        for (int value : new int[] {1, 2, 16, 17, 127, 128, 255, 256, 9998, 9999}) {
            is("setting 1, " + value + " is inside", "8 " + value, Bounds::fresh,
                    x -> then(x.set(1, value), x.setting(0) + " " + x.setting(1)));
        }
        says("Changes a setting. Undoable.");
        saves("setting 0", Bounds::some, x -> x.set(0, 16));
        saves("setting 1", Bounds::some, x -> x.set(1, 9999));
        saves("setting 0 to its value", Bounds::some, x -> x.set(0, 8));
        saves("setting 1 to its value", Bounds::some, x -> x.set(1, 300));
        is("the sets are cut anew", "0..1:2 2..2:1", "0-2", x -> then(x.set(0, 2), blocks(x, 0)));
    }

    private static void setOutside() {
        promise("Promise 7, set");
        says("Throws `IndexOutOfBoundsException` if there is no such setting");
        refusedEverywhere("setting", INDEX, outside(0, 1), (x, setting) -> x.set(setting, 8));
        says("`setting`: 0 or 1");
        is("0 is just inside", "9 300", Bounds::fresh, x -> then(x.set(0, 9), x.setting(0) + " " + x.setting(1)));
        is("1 is just inside", "8 9", Bounds::fresh, x -> then(x.set(1, 9), x.setting(0) + " " + x.setting(1)));
        says("Throws `IllegalArgumentException` if value is out of range");
        refusedEverywhere("setting 0, value", ARGUMENT, outside(2, 16), (x, value) -> x.set(0, value));
        refusedEverywhere("setting 0, value", ARGUMENT, new int[] {0, -2, 300, 9999}, (x, value) -> x.set(0, value));
        refusedEverywhere("setting 1, value", ARGUMENT, outside(1, 9999), (x, value) -> x.set(1, value));
        says("If several exceptions apply, the one that is named first in the throws clause is thrown.");
        refusedEverywhere("ahead of value 0, setting", INDEX, outside(0, 1), (x, setting) -> x.set(setting, 0));
        refusedEverywhere("ahead of value 10000, setting", INDEX, outside(0, 1),
                (x, setting) -> x.set(setting, 10000));
    }
}
