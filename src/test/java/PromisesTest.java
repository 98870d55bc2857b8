/** For each promise: ordinary inputs, the edges that the document names, and wrong inputs. */
public final class PromisesTest {
    private static final int MIN = Integer.MIN_VALUE;
    private static final int MAX = Integer.MAX_VALUE;

    private PromisesTest() {
    }

    public static void main(String[] args) {
        newObject();
        add();
        remove();
        removeRange();
        shift();
        combine();
        set();
        append();
        clearBuffer();
        firstError();
        firstErrorOfRanges();
        read();
        undo();
        undoableCalls();
        has();
        member();
        less();
        nearest();
        block();
        of();
        leaps();
        leapsThatFindNothing();
        count();
        setting();
        ifSet();
        ifAdded();
        dearest();
        bestWidth();
        smallness();
        digest();
        throwingCallsChangeNothing();
        Check.end();
    }

    // ---- makers

    private static GapSets with(int set, int... numbers) {
        return put(new GapSets(), set, numbers);
    }

    private static GapSets put(GapSets x, int set, int... numbers) {
        for (int n : numbers) {
            x.add(set, n);
        }
        return x;
    }

    private static void type(GapSets x, String text) {
        x.clearBuffer();
        text.chars().forEach(x::append);
    }

    private static GapSets typed(String text) {
        GapSets x = new GapSets();
        type(x, text);
        return x;
    }

    private static String members(GapSets x, int set) {
        StringBuilder all = new StringBuilder();
        for (int place = 0; x.member(set, place) != -1; place++) {
            all.append(place > 0 ? " " : "").append(x.member(set, place));
        }
        return all.toString();
    }

    private static void same(String what, Object got, Object want) {
        Check.same(what, got, want);
    }

    /** A set outside 0 to 3 is told ahead of any other fault. */
    private interface OfSet {
        Object make(int set);
    }

    private static void noSuchSet(OfSet call) {
        for (int set : new int[] {-1, 4, MIN, MAX}) {
            Check.noSuch("set " + set, () -> call.make(set));
        }
    }

    private static void badNumbers(OfSet call) {
        for (int number : new int[] {-1, 10000, MIN, MAX}) {
            Check.badArgument("number " + number, () -> call.make(number));
        }
    }

    // ---- promises

    private static void newObject() {
        Check.part("1 a new object");
        same("NONE", GapSets.NONE, -1);
        GapSets x = new GapSets();
        for (int set = 0; set < 4; set++) {
            same("members", x.of(set, 0), 0);
        }
        same("buffer", x.firstError(), 0);
        same("buffer's length", x.clearBuffer(), 0);
        same("saved states", x.count(6), 0);
        same("setting 0", x.setting(0), 8);
        same("setting 1", x.setting(1), 300);
        put(x, 0, 5);
        same("another object", new GapSets().of(0, 0), 0);
    }

    private static void add() {
        Check.part("2 add");
        GapSets x = new GapSets();
        same("new", x.add(0, 7), 1);
        same("again", x.add(0, 7), 0);
        same("0", x.add(0, 0), 1);
        same("9999", x.add(0, 9999), 1);
        same("between", x.add(0, 8), 1);
        same("members", members(x, 0), "0 7 8 9999");
        same("another set", x.add(3, 7), 1);
        same("saves, also when nothing changes", x.count(6), 6);
        noSuchSet(set -> x.add(set, -1));
        badNumbers(number -> x.add(3, number));
        GapSets full = typed("40-99");
        full.read(1);
        Check.badState("the 61st", () -> full.add(1, 5));
        Check.badArgument("10000 in a full set", () -> full.add(1, 10000));
        same("a member of a full set", full.add(1, 40), 0);
        same("another set", full.add(2, 5), 1);
        same("members", full.of(1, 0), 60);
    }

    private static void remove() {
        Check.part("3 remove");
        GapSets x = with(2, 3, 5, 9);
        same("a member", x.remove(2, 5), 1);
        same("again", x.remove(2, 5), 0);
        same("in another set", x.remove(1, 3), 0);
        same("members", members(x, 2), "3 9");
        same("saves", x.count(6), 6);
        noSuchSet(set -> x.remove(set, 10000));
        badNumbers(number -> x.remove(2, number));
    }

    private static void removeRange() {
        Check.part("4 removeRange");
        GapSets x = with(0, 0, 4, 5, 6, 10, 9999);
        same("none", x.removeRange(0, 1, 3), 0);
        same("both ends", x.removeRange(0, 4, 6), 3);
        same("members", members(x, 0), "0 10 9999");
        same("one number", x.removeRange(0, 10, 10), 1);
        same("all", x.removeRange(0, 0, 9999), 2);
        same("empty", x.removeRange(0, 0, 9999), 0);
        noSuchSet(set -> x.removeRange(set, 5, 4));
        badNumbers(from -> x.removeRange(0, from, 9999));
        badNumbers(to -> x.removeRange(0, 0, to));
        Check.badArgument("from above to", () -> x.removeRange(0, 5, 4));
    }

    private static void shift() {
        Check.part("5 shift");
        GapSets x = with(0, 10, 20, 9990);
        same("up", x.shift(0, 9), 19);
        same("members", members(x, 0), "19 29 9999");
        Check.badState("above 9999", () -> x.shift(0, 1));
        same("down", x.shift(0, -19), 0);
        Check.badState("below 0", () -> x.shift(0, -1));
        same("by 0", x.shift(0, 0), 0);
        same("empty", x.shift(1, -9999), -1);
        same("empty, up", x.shift(1, 9999), -1);
        GapSets y = with(2, 0);
        same("all the way up", y.shift(2, 9999), 9999);
        same("all the way down", y.shift(2, -9999), 0);
        noSuchSet(set -> x.shift(set, 10000));
        for (int by : new int[] {10000, -10000, MIN, MAX}) {
            Check.badArgument("by " + by, () -> x.shift(0, by));
            Check.badArgument("by " + by + " in an empty set", () -> x.shift(3, by));
        }
    }

    private static void combine() {
        Check.part("6 combine");
        GapSets x = put(with(0, 1, 2, 3, 9), 1, 2, 9, 10);
        same("or", x.combine(2, 0, 1, 0), 5);
        same("or", members(x, 2), "1 2 3 9 10");
        same("and", x.combine(2, 0, 1, 1), 2);
        same("and", members(x, 2), "2 9");
        same("and not", x.combine(2, 0, 1, 2), 2);
        same("and not", members(x, 2), "1 3");
        same("and not, turned", x.combine(2, 1, 0, 2), 1);
        same("and not, turned", members(x, 2), "10");
        same("just one", x.combine(2, 0, 1, 3), 3);
        same("just one", members(x, 2), "1 3 10");
        same("into the first", x.combine(0, 0, 1, 3), 3);
        same("into the first", members(x, 0), "1 3 10");
        same("into the second", x.combine(1, 0, 1, 0), 5);
        same("into the second", members(x, 1), "1 2 3 9 10");
        same("with itself, or", x.combine(1, 1, 1, 0), 5);
        same("with itself, and", x.combine(1, 1, 1, 1), 5);
        same("with itself, just one", x.combine(1, 1, 1, 3), 0);
        noSuchSet(set -> x.combine(set, 0, 0, 4));
        noSuchSet(set -> x.combine(0, set, 0, 4));
        noSuchSet(set -> x.combine(0, 0, set, 4));
        for (int how : new int[] {-1, 4, MIN, MAX}) {
            Check.badArgument("how " + how, () -> x.combine(0, 1, 2, how));
        }
        combineFull();
    }

    private static void combineFull() {
        GapSets x = typed("0-59");
        x.read(0);
        type(x, "60-119");
        x.read(1);
        Check.badState("120 members", () -> x.combine(2, 0, 1, 0));
        Check.badState("120 members of just one", () -> x.combine(0, 0, 1, 3));
        same("60 without 60", x.combine(2, 0, 1, 2), 60);
        same("60 of both", x.combine(2, 0, 0, 1), 60);
        x.removeRange(0, 1, 59);
        Check.badState("61 members", () -> x.combine(1, 0, 1, 0));
        x.remove(1, 119);
        same("60 members", x.combine(1, 0, 1, 0), 60);
        same("least", x.of(1, 4), 0);
    }

    private static void set() {
        Check.part("7 set");
        GapSets x = new GapSets();
        same("0", x.set(0, 2), 8);
        same("0", x.set(0, 16), 2);
        same("1", x.set(1, 1), 300);
        same("1", x.set(1, 9999), 1);
        same("0 then", x.setting(0), 16);
        same("1 then", x.setting(1), 9999);
        same("the same value", x.set(0, 16), 16);
        same("saves", x.count(6), 5);
        for (int setting : new int[] {-1, 2, MIN, MAX}) {
            Check.noSuch("setting " + setting, () -> x.set(setting, 0));
        }
        for (int value : new int[] {1, 17, 0, -1, 300, MIN, MAX}) {
            Check.badArgument("most " + value, () -> x.set(0, value));
        }
        for (int value : new int[] {0, -1, 10000, MIN, MAX}) {
            Check.badArgument("width " + value, () -> x.set(1, value));
        }
    }

    private static void append() {
        Check.part("8 append");
        GapSets x = new GapSets();
        same("33", x.append(33), 1);
        same("126", x.append(126), 2);
        same("a digit", x.append('5'), 3);
        same("saves nothing", x.count(6), 0);
        for (int code : new int[] {32, 127, 0, -1, 300, MIN, MAX}) {
            Check.badArgument("code " + code, () -> x.append(code));
        }
        for (int length = 4; length <= 60; length++) {
            same("length", x.append('1'), length);
        }
        Check.badState("the 61st", () -> x.append('1'));
        Check.badArgument("the 61st, 32", () -> x.append(32));
        same("length", x.clearBuffer(), 60);
        same("after clearing", x.append('1'), 1);
    }

    private static void clearBuffer() {
        Check.part("9 clearBuffer");
        GapSets x = typed("1,2");
        same("length", x.clearBuffer(), 3);
        same("again", x.clearBuffer(), 0);
        same("saves nothing", x.count(6), 0);
        Check.badArgument("nothing to read", () -> x.read(0));
    }

    private static void error(String text, int index) {
        GapSets x = typed(text);
        same("\"" + text + "\"", x.firstError(), index);
        same("\"" + text + "\" again", x.firstError(), index);
        same("\"" + text + "\" is kept", x.clearBuffer(), text.length());
    }

    private static void ok(String text) {
        error(text, text.length());
    }

    private static void firstError() {
        Check.part("10 firstError");
        ok("");
        ok("0");
        ok("9999");
        ok("3,5");
        ok("3,");
        ok("3,5,1000");
        ok("0,1,2,3,4,5,6,7,8,9,10,11,12,13,14,15,16,17,18,19,20,21,22,2");
        error(",", 0);
        error("-", 0);
        error("a", 0);
        error("00", 1);
        error("01", 1);
        error("10000", 4);
        error("3,,", 2);
        error("3,3,", 3);
        error("5,4", 3);
        error("5,4,", 3);
        error("5,40,", 5);
        error("5,0", 2);
        error("5,00", 2);
        error("9,10,9", 6);
        error("123,1234", 8);
        error("1234,1", 6);
        error("1234,12", 7);
        error("1234,122", 7);
        error("1234,1234", 8);
        error("9998,9999", 9);
        error("9999,", 4);
        error("9998,9999,", 9);
        error("9998,9998", 8);
        error("9989,998", 7);
        error("9990,998", 7);
        error("1.2", 1);
        error("1/", 1);
        error("1:", 1);
        error("1+", 1);
        error("!1", 0);
    }

    private static void firstErrorOfRanges() {
        Check.part("10 firstError, ranges");
        ok("3-");
        ok("3-3");
        ok("3-5,6");
        ok("3-5,6-6,7-");
        ok("0-0");
        ok("0-9999");
        ok("9999-9999");
        ok("9999-");
        error("3-2,", 3);
        error("3--", 2);
        error("3-,", 2);
        error("3-5-", 3);
        error("3-5-6", 3);
        error("3-5,5,", 5);
        error("3-5,-", 4);
        error("3-0", 2);
        error("1-00", 2);
        error("0-00", 3);
        error("0-9999,", 6);
        error("9999-9998", 8);
        error("10-1-", 4);
        error("10-9-", 4);
        error("10-9,", 4);
        error("10-9", 4);
        error("20-19", 5);
        error("9990-998", 7);
        error("5,4-", 3);
        error("5,4000-", 7);
        error("5,4000-4", 8);
        error("5,4000-39", 7);
        error("5,4000-4000-", 11);
        error("3-10000", 6);
    }

    private static void reads(String text, int amount, String members) {
        GapSets x = typed(text);
        same("read of \"" + text + "\"", x.read(2), amount);
        same("members of \"" + text + "\"", members(x, 2), members);
        same("buffer after \"" + text + "\"", x.clearBuffer(), 0);
        same("saved after \"" + text + "\"", x.count(6), 1);
    }

    private static void doesNotRead(String text) {
        GapSets x = typed(text);
        Check.badArgument("read of \"" + text + "\"", () -> x.read(0));
        Check.noSuch("read(4) of \"" + text + "\"", () -> x.read(4));
        same("saved", x.count(6), 0);
        same("buffer is kept", x.clearBuffer(), text.length());
    }

    private static void read() {
        Check.part("11 read");
        reads("0", 1, "0");
        reads("9999", 1, "9999");
        reads("3-5,7,9-9,100", 6, "3 4 5 7 9 100");
        reads("9998-9999", 2, "9998 9999");
        reads("0,1,2,3,4,5,6,7,8,9,10,11,12,13,14,15,16,17,18,19,20,21,2222", 23,
                "0 1 2 3 4 5 6 7 8 9 10 11 12 13 14 15 16 17 18 19 20 21 2222");
        for (String text : new String[] {"", "1,", "1-", "2,1", "3,3", "5-4", "5-40,4", "1-2-3", "01",
                "10000", "5x", "12,1", "9999,", "1,2,"}) {
            doesNotRead(text);
        }
        GapSets x = typed("0-60");
        Check.badState("61 members", () -> x.read(0));
        Check.noSuch("no such set", () -> x.read(-1));
        same("buffer is kept", x.clearBuffer(), 4);
        type(x, "0-9999");
        Check.badState("10000 members", () -> x.read(0));
        type(x, "0-58,60,62");
        Check.badState("61 members in parts", () -> x.read(0));
        type(x, "0-58,60");
        put(x, 0, 5000);
        same("60 members", x.read(0), 60);
        same("the old members are gone", x.has(0, 5000), 0);
        noSuchSet(set -> typed("1").read(set));
    }

    private static void undo() {
        Check.part("12 undo");
        GapSets x = new GapSets();
        Check.badState("none saved", x::undo);
        for (int n = 1; n <= 8; n++) {
            x.add(0, n);
        }
        same("saved", x.count(6), 6);
        for (int left = 5; left >= 0; left--) {
            same("undo", x.undo(), left);
            same("members", x.of(0, 0), left + 2);
        }
        Check.badState("the oldest ones are dropped", x::undo);
        same("members", members(x, 0), "1 2");
        x.add(0, 3);
        same("undo after undo", x.undo(), 0);
        same("members", members(x, 0), "1 2");
        for (int round = 0; round < 9; round++) {
            x.add(1, round);
            x.add(2, round);
            same("back and forth", x.undo(), Math.min(round + 1, 5));
        }
        same("set 1", x.of(1, 0), 9);
        same("set 2", x.of(2, 0), 0);
    }

    private static void undoableCalls() {
        Check.part("12 undo of each call");
        GapSets x = put(with(0, 5, 7, 9), 1, 5);
        String start = members(x, 0);
        int saved = x.count(6);
        x.remove(0, 5);
        same("remove", x.undo(), saved);
        x.removeRange(0, 0, 9999);
        same("removeRange", x.undo(), saved);
        x.shift(0, 100);
        same("shift", x.undo(), saved);
        x.combine(0, 1, 1, 3);
        same("combine", x.undo(), saved);
        type(x, "1-4");
        x.read(0);
        x.append('8');
        same("read", x.undo(), saved);
        same("members", members(x, 0), start);
        same("the buffer is not restored", x.clearBuffer(), 1);
        x.set(0, 3);
        x.set(1, 4);
        same("settings", x.undo(), saved + 1);
        same("setting 1", x.setting(1), 300);
        same("setting 0", x.setting(0), 3);
        same("settings", x.undo(), saved);
        same("setting 0", x.setting(0), 8);
        x.remove(0, 6);
        x.removeRange(1, 6, 6);
        same("also what changes nothing", x.count(6), 6);
        same("undo of nothing", x.undo(), saved + 1);
        GapSets y = new GapSets();
        y.shift(0, 5);
        y.combine(0, 0, 0, 0);
        y.set(0, 8);
        same("empty sets and the same setting", y.count(6), 3);
    }

    private static void has() {
        Check.part("13 has");
        GapSets x = with(1, 0, 5, 9999);
        same("0", x.has(1, 0), 1);
        same("5", x.has(1, 5), 1);
        same("9999", x.has(1, 9999), 1);
        same("6", x.has(1, 6), 0);
        same("another set", x.has(0, 5), 0);
        noSuchSet(set -> x.has(set, 10000));
        badNumbers(number -> x.has(1, number));
        badNumbers(number -> x.has(0, number));
    }

    private static void member() {
        Check.part("14 member");
        GapSets x = with(1, 9, 5, 300);
        same("0", x.member(1, 0), 5);
        same("1", x.member(1, 1), 9);
        same("2", x.member(1, 2), 300);
        same("3", x.member(1, 3), -1);
        same("far", x.member(1, MAX), -1);
        x.remove(1, 300);
        same("after removal", x.member(1, 2), -1);
        same("empty", x.member(0, 0), -1);
        noSuchSet(set -> x.member(set, -1));
        Check.badArgument("below 0", () -> x.member(1, -1));
        Check.badArgument("far below 0", () -> x.member(0, MIN));
    }

    private static void less() {
        Check.part("15 less");
        GapSets x = with(3, 0, 5, 9999);
        same("0", x.less(3, 0), 0);
        same("1", x.less(3, 1), 1);
        same("5", x.less(3, 5), 1);
        same("6", x.less(3, 6), 2);
        same("9999", x.less(3, 9999), 2);
        same("all", with(0, 1, 2).less(0, 9999), 2);
        same("empty", x.less(0, 9999), 0);
        noSuchSet(set -> x.less(set, -1));
        badNumbers(number -> x.less(3, number));
    }

    private static void nearest() {
        Check.part("16 nearest");
        GapSets x = with(0, 10, 20, 31);
        same("below all", x.nearest(0, 0), 10);
        same("above all", x.nearest(0, 9999), 31);
        same("a member", x.nearest(0, 20), 20);
        same("of two the lesser one", x.nearest(0, 15), 10);
        same("nearer to the greater one", x.nearest(0, 16), 20);
        same("nearer to the lesser one", x.nearest(0, 25), 20);
        same("nearer to the greater one", x.nearest(0, 26), 31);
        same("empty", x.nearest(1, 0), -1);
        noSuchSet(set -> x.nearest(set, 10000));
        badNumbers(number -> x.nearest(0, number));
        badNumbers(number -> x.nearest(1, number));
    }

    private static void blockIs(GapSets x, int block, int... properties) {
        for (int what = 0; what < 6; what++) {
            same("block " + block + ", what " + what, x.block(0, block, what), properties[what]);
        }
    }

    private static void block() {
        Check.part("17 block");
        GapSets x = with(0, 0, 127, 255, 555, 856, 857);
        blockIs(x, 0, 0, 4, 555, 3 + 1 + 2 + 2, 300, 0);
        blockIs(x, 1, 856, 2, 857, 4, 1, 4);
        same("block 2", x.block(0, 2, 0), -1);
        same("block 2, members", x.block(0, 2, 1), -1);
        same("far", x.block(0, MAX, 5), -1);
        same("empty", x.block(1, 0, 5), -1);
        x.set(0, 2);
        blockIs(x, 0, 0, 2, 127, 4, 127, 0);
        blockIs(x, 1, 255, 2, 555, 5, 300, 2);
        blockIs(x, 2, 856, 2, 857, 4, 1, 4);
        x.set(1, 1);
        blockIs(x, 0, 0, 1, 0, 3, 0, 0);
        blockIs(x, 4, 856, 2, 857, 4, 1, 4);
        noSuchSet(set -> x.block(set, -1, 6));
        Check.badArgument("block -1", () -> x.block(0, -1, 0));
        Check.badArgument("block -1 of an empty set", () -> x.block(1, MIN, 0));
        for (int what : new int[] {-1, 6, MIN, MAX}) {
            Check.badArgument("what " + what, () -> x.block(0, 0, what));
            Check.badArgument("what " + what + ", no such block", () -> x.block(1, 9, what));
        }
        GapSets ten = typed("0-9");
        ten.read(0);
        blockIs(ten, 0, 0, 8, 7, 10, 1, 0);
        blockIs(ten, 1, 8, 2, 9, 4, 1, 8);
        GapSets all = new GapSets();
        for (int n = 0; n < 60; n++) {
            all.add(0, 166 * n);
        }
        all.set(1, 165);
        blockIs(all, 59, 9794, 1, 9794, 3, 0, 59);
        same("60 blocks", all.block(0, 60, 0), -1);
    }

    private static void ofIs(GapSets x, int set, int... properties) {
        for (int what = 0; what < 8; what++) {
            same("set " + set + ", what " + what, x.of(set, what), properties[what]);
        }
    }

    private static void of() {
        Check.part("18 of");
        GapSets x = with(0, 0, 127, 255, 555, 856, 857);
        same("gaps of two bytes, asked first", x.of(0, 7), 2);
        ofIs(x, 0, 6, 2, 12, 12, 0, 857, 2, 2);
        ofIs(x, 1, 0, 0, 0, 0, -1, -1, 0, 0);
        put(x, 2, 44);
        ofIs(x, 2, 1, 1, 3, 2, 44, 44, 1, 0);
        x.set(1, 301);
        ofIs(x, 0, 6, 1, 3 + 1 + 2 + 2 + 2 + 1, 12, 0, 857, 2, 3);
        x.set(0, 3);
        ofIs(x, 0, 6, 2, 6 + 3 + 3, 12, 0, 857, 2, 2);
        GapSets y = typed("1-3,5-9,11-14");
        y.read(3);
        ofIs(y, 3, 12, 2, 16, 24, 1, 14, 5, 0);
        noSuchSet(set -> x.of(set, 8));
        for (int what : new int[] {-1, 8, MIN, MAX}) {
            Check.badArgument("what " + what, () -> x.of(0, what));
        }
    }

    private static void leapsAre(GapSets x, int one, int other, int... results) {
        for (int what = 0; what < 4; what++) {
            same("leaps " + one + " " + other + ", what " + what, x.leaps(one, other, what), results[what]);
        }
    }

    private static void leaps() {
        Check.part("19 leaps");
        GapSets x = put(with(0, 1, 2, 3, 4, 5, 6), 1, 2, 4, 6);
        x.set(0, 2);
        // The blocks are 1 2, 3 4, 5 6 and 2 4, 6. For 1: base 6, member 2; in the first set for 2: base 3,
        // members 1 2. For 2: base 6, member 2. For 3: base 6, members 2 4; in the first set for 4: base 5,
        // members 3 4. For 4: base 6, members 2 4. For 5: base 6, members 2 4, base 6; in the first set
        // for 6: members 5 6. For 6: member 6.
        leapsAre(x, 0, 1, 3, 3, 6, 2 + 3 + 2 + 3 + 3 + 3 + 4 + 2 + 1);
        // Each candidate is found at once: for 2 base 3, members 1 2; for 4 bases 3 5, members 3 4;
        // for 6 base 5, members 5 6.
        leapsAre(x, 1, 0, 3, 0, 3, 3 + 4 + 3);
        // With itself: for 2 base 6, member 2; for 4 base 6, members 2 4; for 6 base 6, member 6.
        leapsAre(x, 1, 1, 3, 0, 3, 2 + 3 + 2);
        noSuchSet(set -> x.leaps(set, 0, 4));
        noSuchSet(set -> x.leaps(0, set, 4));
        for (int what : new int[] {-1, 4, MIN, MAX}) {
            Check.badArgument("what " + what, () -> x.leaps(0, 1, what));
        }
    }

    private static void leapsThatFindNothing() {
        Check.part("19 leaps, ends");
        GapSets x = put(with(0, 7, 8), 1, 3, 5);
        leapsAre(x, 2, 3, 0, 0, 0, 0);
        leapsAre(x, 2, 0, 0, 0, 0, 0);
        leapsAre(x, 0, 2, 0, 0, 1, 0);
        // The second set has nothing for 7: members 3 5.
        leapsAre(x, 0, 1, 0, 0, 1, 2);
        // For 3: member 7. The first set has nothing for 7: members 3 5.
        leapsAre(x, 1, 0, 0, 1, 1, 3);
        // For 1: members 5; in the first set for 5: members 1 2 5. For 5: member 5. 5 was the last one.
        leapsAre(put(with(0, 1, 2, 5), 1, 5, 6), 0, 1, 1, 1, 2, 1 + 3 + 1);
        put(x, 3, 3, 1000, 2000);
        x.add(1, 1000);
        // For 3: base 1000, member 3. For 5: base 1000, member 3, base 1000. First for 1000: base 1000,
        // member 1000. For 1000: base 2000, member 1000. The first set has no more candidates.
        leapsAre(x, 1, 3, 2, 1, 3, 2 + 3 + 2 + 2);
    }

    private static void count() {
        Check.part("20 count");
        GapSets x = new GapSets();
        same("pairs", x.count(5), 6);
        same("unlike members", x.count(1), 0);
        put(x, 0, 1, 2, 3);
        put(x, 1, 2, 3, 400);
        same("pairs", x.count(5), 1);
        same("of all four", x.count(2), 0);
        put(x, 2, 2, 3);
        put(x, 3, 2, 3);
        same("members", x.count(0), 10);
        same("unlike members", x.count(1), 4);
        same("of all four", x.count(2), 2);
        same("sizes", x.count(3), 5 + 7 + 4 + 4);
        same("blocks", x.count(4), 5);
        same("pairs", x.count(5), 1);
        same("saved states", x.count(6), 6);
        x.undo();
        same("saved states", x.count(6), 5);
        x.combine(3, 2, 2, 0);
        x.combine(1, 2, 2, 0);
        same("pairs of three", x.count(5), 3);
        GapSets y = put(put(put(with(0, 1), 1, 2), 2, 1, 2, 3), 3, 1, 3);
        same("no pairs, as many members", y.count(5), 0);
        put(y, 0, 3);
        put(y, 1, 3);
        same("pairs alike", y.count(5), 1);
        same("of all four, the last one has more", y.count(2), 1);
        same("unlike members of all", y.count(1), 3);
        for (int what : new int[] {-1, 7, MIN, MAX}) {
            Check.badArgument("what " + what, () -> x.count(what));
        }
    }

    private static void setting() {
        Check.part("21 setting");
        GapSets x = new GapSets();
        same("0", x.setting(0), 8);
        same("1", x.setting(1), 300);
        x.set(1, 5);
        same("1", x.setting(1), 5);
        for (int setting : new int[] {-1, 2, MIN, MAX}) {
            Check.noSuch("setting " + setting, () -> x.setting(setting));
        }
    }

    private static void ifSet() {
        Check.part("22 ifSet");
        GapSets x = with(0, 0, 127, 255, 555, 856, 857);
        same("as it is", x.ifSet(0, 8, 300), 12);
        same("width 301", x.ifSet(0, 8, 301), 11);
        same("width 9999", x.ifSet(0, 16, 9999), 11);
        same("most 2", x.ifSet(0, 2, 9999), 4 + 5 + 4);
        same("width 1", x.ifSet(0, 16, 1), 16);
        same("empty", x.ifSet(1, 2, 1), 0);
        same("nothing is changed", x.setting(0) + x.setting(1), 308);
        noSuchSet(set -> x.ifSet(set, 1, 0));
        for (int most : new int[] {1, 17, MIN, MAX}) {
            Check.badArgument("most " + most, () -> x.ifSet(0, most, 300));
        }
        badNumbers(width -> x.ifSet(0, 8, width));
        Check.badArgument("width 0", () -> x.ifSet(0, 8, 0));
    }

    private static void ifAdded() {
        Check.part("23 ifAdded");
        GapSets x = with(0, 100, 300);
        same("a member", x.ifAdded(0, 100), 0);
        same("two bytes in all become two of one", x.ifAdded(0, 200), 0);
        same("one byte", x.ifAdded(0, 301), 1);
        same("two bytes", x.ifAdded(0, 428), 2);
        same("a new block", x.ifAdded(0, 601), 3);
        same("empty", x.ifAdded(1, 0), 3);
        same("nothing is changed", members(x, 0), "100 300");
        GapSets wide = with(0, 0, 301);
        same("two blocks become one", wide.ifAdded(0, 150), 3 + 2 + 2 - 6);
        same("two blocks become one, gap by gap", wide.ifAdded(0, 174), 3 + 2 + 1 - 6);
        GapSets full = typed("0-59");
        full.read(0);
        same("a full set", full.ifAdded(0, 9999), 3);
        same("a full set, near", full.ifAdded(0, 60), 1);
        same("a full set, a member", full.ifAdded(0, 30), 0);
        noSuchSet(set -> x.ifAdded(set, -1));
        badNumbers(number -> x.ifAdded(0, number));
    }

    private static void dearest() {
        Check.part("24 dearest");
        GapSets x = with(0, 0, 100, 1000, 1001);
        // Without 0 or 100: 3 + 4; without 1000 or 1001: 4 + 3.
        same("of several the least one", x.dearest(0, 0), 0);
        same("size", x.dearest(0, 1), 7);
        put(x, 0, 5000);
        same("alone in its block", x.dearest(0, 0), 5000);
        same("size", x.dearest(0, 1), 8);
        same("one member", with(3, 9).dearest(3, 0), 9);
        same("one member, size", with(3, 9).dearest(3, 1), 0);
        same("empty", x.dearest(1, 0), -1);
        same("empty, size", x.dearest(1, 1), -1);
        // Without 150 a block of its own begins at 301, which is dearer: so an end goes.
        GapSets y = with(0, 0, 150, 301);
        same("not the one between", y.dearest(0, 0), 0);
        same("not the one between, size", y.dearest(0, 1), 5);
        same("nothing is changed", members(y, 0), "0 150 301");
        noSuchSet(set -> x.dearest(set, 2));
        for (int what : new int[] {-1, 2, MIN, MAX}) {
            Check.badArgument("what " + what, () -> x.dearest(0, what));
        }
    }

    private static void bestWidth() {
        Check.part("25 bestWidth");
        GapSets x = new GapSets();
        same("no gaps", x.bestWidth(), 1);
        put(x, 0, 5);
        same("one member", x.bestWidth(), 1);
        put(x, 0, 205, 206);
        same("the greatest gap", x.bestWidth(), 200);
        put(x, 1, 0, 5000);
        same("another set's gap", x.bestWidth(), 5000);
        same("just a gap of 1", with(0, 1, 2).bestWidth(), 1);
        same("a gap of 2", with(0, 1, 3).bestWidth(), 2);
        same("nothing is changed", x.setting(1), 300);
        // A narrower cut lets fuller blocks begin later: 0 | 900 .. 907 in blocks of 8.
        GapSets y = with(1, 0, 900, 901, 902, 903, 904, 905, 906, 907);
        same("of 1 and 900 the lesser size", y.ifSet(1, 8, 1), 3 + 3 + 7);
        same("of 1 and 900 the greater size", y.ifSet(1, 8, 900), 3 + 2 + 6 + 3);
        same("not the greatest gap", y.bestWidth(), 1);
        put(y, 3, 0, 10, 20);
        same("neither the least nor the greatest", y.bestWidth(), 10);
        GapSets z = with(2, 0, 100, 101);
        z.set(0, 2);
        same("of 1 and 100 the same size", z.ifSet(2, 2, 1) - z.ifSet(2, 2, 100), 0);
        same("of several the least one", z.bestWidth(), 1);
    }

    private static void smallness() {
        Check.part("26 smallness");
        GapSets x = new GapSets();
        same("empty", x.smallness(), 1.0);
        put(x, 0, 4);
        same("one member", x.smallness(), 1.5);
        put(x, 1, 5, 6);
        same("7 of 6", x.smallness(), 7.0 / 6);
        x.set(0, 2);
        put(x, 1, 7, 8, 9);
        same("14 of 12", x.smallness(), 14.0 / 12);
        GapSets full = typed("0-59");
        full.read(0);
        same("84 less 8", full.smallness(), 76.0 / 120);
    }

    private static long hashOf(long... values) {
        long hash = 2617;
        for (long v : values) {
            hash = 31 * hash + v;
        }
        return hash;
    }

    private static void digest() {
        Check.part("27 digest");
        long one = Double.doubleToLongBits(1.0);
        long[] empty = {0, 0, 0, 0, 0, 6, 0, 8, 300,
            0, 0, 0, 0, -1, -1, 0, 0, -1, -1, 3, -1, 0, 0, 0, 0,
            0, 0, 0, 0, -1, -1, 0, 0, -1, -1, 3, -1, 0, 0, 0, 0,
            0, 0, 0, 0, -1, -1, 0, 0, -1, -1, 3, -1, 0, 0, 0, 0,
            0, 0, 0, 0, -1, -1, 0, 0, -1, -1, 3, -1, 0, 0, 0, 0,
            1, one, 0};
        same("a new object", new GapSets().digest(), hashOf(empty));
        GapSets x = with(0, 10, 12);
        x.append('7');
        x.append('!');
        long share = Double.doubleToLongBits(4.0 / 4);
        same("one set", x.digest(), hashOf(2, 2, 0, 4, 1, 3, 2, 8, 300,
            2, 1, 4, 4, 10, 12, 1, 0, 10, 12, 10, 2, 12, 4, 2, 0, 10, 3, 3, 12, 2, 0, 2, 3,
            0, 0, 0, 0, -1, -1, 0, 0, -1, -1, 3, -1, 0, 0, 0, 0,
            0, 0, 0, 0, -1, -1, 0, 0, -1, -1, 3, -1, 0, 0, 0, 0,
            0, 0, 0, 0, -1, -1, 0, 0, -1, -1, 3, -1, 0, 0, 0, 0,
            2, share, 2, '7', '!'));
        same("again", x.digest(), x.digest());
        digestOfShareBelowOne();
        digestChanges();
    }

    private static void digestOfShareBelowOne() {
        GapSets x = with(0, 1, 2, 3, 4);
        x.undo();
        x.add(0, 4);
        // Without one of the ends 5 bytes are left, and without one of the others too.
        same("6 of 8", x.digest(), hashOf(4, 4, 0, 6, 1, 3, 4, 8, 300,
            4, 1, 6, 8, 1, 4, 4, 0, 1, 2, 3, 4, 1, 4, 4, 6, 1, 0, 1, 5, 3, 4, 4, 0, 4, 1 + 2 + 3 + 4,
            0, 0, 0, 0, -1, -1, 0, 0, -1, -1, 3, -1, 0, 0, 0, 0,
            0, 0, 0, 0, -1, -1, 0, 0, -1, -1, 3, -1, 0, 0, 0, 0,
            0, 0, 0, 0, -1, -1, 0, 0, -1, -1, 3, -1, 0, 0, 0, 0,
            1, Double.doubleToLongBits(0.75), 0));
    }

    private static void digestChanges() {
        GapSets x = with(0, 10, 12);
        long before = x.digest();
        x.append('7');
        same("the buffer counts", x.digest() != before, true);
        x.clearBuffer();
        same("the same state", x.digest(), before);
        x.set(1, 299);
        same("settings count", x.digest() != before, true);
        x.undo();
        same("undone", x.digest(), before);
    }

    private static void throwingCallsChangeNothing() {
        Check.part("exceptions");
        GapSets x = typed("0-59");
        x.read(0);
        type(x, "100-159");
        x.read(1);
        type(x, "0-99");
        long before = x.digest();
        Check.badState("add", () -> x.add(0, 60));
        Check.badState("shift", () -> x.shift(0, -1));
        Check.badState("combine", () -> x.combine(0, 0, 1, 0));
        Check.badState("read", () -> x.read(0));
        Check.badArgument("set", () -> x.set(0, 1));
        Check.badArgument("removeRange", () -> x.removeRange(0, 5, 4));
        Check.badArgument("append", () -> x.append(32));
        Check.noSuch("remove", () -> x.remove(4, 0));
        same("nothing is changed", x.digest(), before);
        x.undo();
        x.undo();
        Check.badState("undo", x::undo);
    }
}
