/** The boundary cases of promises 8 to 12: texts and undo. */
public final class TextsBoundsTest extends Bounds {
    private TextsBoundsTest() {
    }

    public static void main(String[] args) {
        append();
        clearBuffer();
        firstError();
        readComplete();
        readIncomplete();
        readOfSixty();
        readChanges();
        undo();
        undoOfEachPart();
        Check.end();
    }

    // ---- promise 8

    private static void append() {
        promise("Promise 8, append");
        says("Throws `IllegalArgumentException` if code is not 33 to 126");
        refusedEverywhere("code", ARGUMENT, outside(33, 126), (x, code) -> x.append(code));
        refusedEverywhere("code", ARGUMENT, new int[] {0, -33, 255, 256 + '5', 65536 + '5'},
                (x, code) -> x.append(code));
        says("`code`: the character code, 33 to 126");
        is("33 is just inside", 1, Bounds::fresh, x -> x.append(33));
        is("126 is just inside", 1, Bounds::fresh, x -> x.append(126));
        for (int code = 33; code <= 126; code++) {
            int inside = code;
            is("code " + inside + " is inside, and kept as it is", 2617L, Bounds::fresh, x -> {
                long before = x.digest();
                x.append(inside);
                // The digest ends with the length, and goes on with the code: 31 times as much, and 31 for 1.
                return 2617L + x.digest() - (31 * (before + 1) + inside);
            });
        }
        says("Returns the new length of the buffer.");
        is("the first one", 1, Bounds::fresh, x -> x.append('5'));
        is("the 59th", 59, () -> typed(SIXTY.substring(0, 58)), x -> x.append('5'));
        is("the 60th", 60, () -> typed(SIXTY.substring(0, 59)), x -> x.append('5'));
        is("the first one behind a clearing", 1, Bounds::full, x -> then(x.clearBuffer(), x.append('5')));
        is("characters that are errors", 3, () -> typed("xx"), x -> x.append('x'));
        says("Throws `IllegalStateException` if the buffer has 60 characters");
        refused("the 61st", STATE, () -> typed(SIXTY), x -> x.append('5'));
        refused("the 61st of a full object", STATE, Bounds::full, x -> x.append(','));
        is("the 60th behind a refused one", 60, () -> typed(SIXTY), x -> {
            Check.badState("the 61st", () -> x.append('5'));
            return x.clearBuffer();
        });
        says("If several exceptions apply, the one that is named first in the throws clause is thrown.");
        refused("32, ahead of the full buffer", ARGUMENT, Bounds::full, x -> x.append(32));
        refused("127, ahead of the full buffer", ARGUMENT, Bounds::full, x -> x.append(127));
    }

    // ---- promise 9

    private static void clearBuffer() {
        promise("Promise 9, clearBuffer");
        says("Returns the length that it had.");
        is("of an empty buffer", 0, Bounds::fresh, x -> x.clearBuffer());
        is("of one character", 1, () -> typed("7"), x -> x.clearBuffer());
        is("of 59 characters", 59, () -> typed(SIXTY.substring(0, 59)), x -> x.clearBuffer());
        is("of a full buffer", 60, Bounds::full, x -> x.clearBuffer());
        is("twice", 0, Bounds::full, x -> then(x.clearBuffer(), x.clearBuffer()));
        is("behind a read", 0, () -> sets("7"), x -> x.clearBuffer());
        says("Clears the buffer.");
        is("nothing is left to look at", 0, Bounds::full, x -> then(x.clearBuffer(), x.firstError()));
        refused("nothing is left to read", ARGUMENT, () -> sets("7"), x -> then(x.clearBuffer(), x.read(1)));
        is("the next text is alone", "8", () -> typed("123,456"), x -> {
            type(x, "8");
            x.read(0);
            return members(x, 0);
        });
        is("the sets and the saved states stay", lookOf(full()), Bounds::full,
                x -> then(x.clearBuffer(), lookOf(x)));
    }

    // ---- promise 10

    private static void errorAt(int due, String text) {
        is("of '" + text + "'", due, () -> typed(text), x -> x.firstError());
        keeps("of '" + text + "'", () -> typed(text), x -> x.firstError());
    }

    private static void firstError() {
        promise("Promise 10, firstError");
        says("Returns the index of the first character that is a syntax error; the length of the buffer if there is "
                + "none.");
        errorAt(0, "");
        errorAt(1, "7");
        errorAt(0, "x");
        errorAt(0, "x7");
        errorAt(1, "7x");
        errorAt(1, "7x8x");
        errorAt(2, "7,");
        errorAt(2, "7-");
        errorAt(2, "7,x");
        errorAt(58, SIXTY.substring(0, 58));
        errorAt(59, SIXTY.substring(0, 59));
        errorAt(60, SIXTY);
        errorAt(59, SIXTY.substring(0, 59) + "x");
        errorAt(58, SIXTY.substring(0, 58) + "xx");
        errorAt(0, "x" + SIXTY.substring(1));
        is("behind a clearing", 0, () -> typed("7x"), x -> then(x.clearBuffer(), x.firstError()));
        is("behind a read", 0, () -> typed("7"), x -> then(x.read(0), x.firstError()));
        is("twice", 1, () -> typed("7x"), x -> then(x.firstError(), x.firstError()));
        is("as the buffer grows", "1 2 3 4 4 4", () -> typed("7"), x -> {
            StringBuilder all = new StringBuilder().append(x.firstError());
            for (char c : "-8,x9".toCharArray()) {
                x.append(c);
                all.append(' ').append(x.firstError());
            }
            return all.toString();
        });
    }

    // ---- promise 11

    private static void readsAs(String text, String due) {
        is("read of '" + text + "'", due, () -> typed(text), x -> x.read(0) + ": " + members(x, 0));
    }

    private static void isRefused(String text) {
        refused("read of '" + text + "'", ARGUMENT, () -> typed(text), x -> x.read(0));
    }

    private static void readComplete() {
        promise("Promise 11, read");
        says("Makes a set the one in the buffer, and clears the buffer. Undoable.");
        readsAs("0", "1: 0");
        readsAs("9999", "1: 9999");
        readsAs("0,9999", "2: 0 9999");
        readsAs("0-0", "1: 0");
        readsAs("9999-9999", "1: 9999");
        readsAs("9-11", "3: 9 10 11");
        readsAs("5-5,6-6,7-8", "4: 5 6 7 8");
        readsAs("7,10,100,1000", "4: 7 10 100 1000");
        readsAs(SIXTY, "23: 0 1 2 3 4 5 6 7 8 9 10 11 12 13 14 15 16 17 18 19 20 21 2222");
        is("in place of other members", "7", () -> type(sets("5-8"), "7"), x -> then(x.read(0), members(x, 0)));
        is("in place of 60 members", "7", () -> type(full(), "7"), x -> then(x.read(0), members(x, 0)));
        is("the other sets stay", "5 6", () -> type(sets("5,6"), "7"), x -> then(x.read(1), members(x, 0)));
        is("another read of the same text needs it again", ARGUMENT, () -> typed("7"),
                x -> then(x.read(0), x.read(1)));
        noSuchSet((x, set) -> x.read(set));
        says("`set`: 0 to 3");
        is("set 0 is just inside", 1, () -> typed("7"), x -> x.read(0) * x.has(0, 7));
        is("set 3 is just inside", 1, () -> typed("7"), x -> x.read(3) * x.has(3, 7));
    }

    private static void readIncomplete() {
        promise("Promise 11, read");
        says("Throws `IllegalArgumentException` if the buffer is not a complete set as a text");
        isRefused("");
        isRefused("7,");
        isRefused("7-");
        isRefused("7-9,");
        isRefused("7-6");
        isRefused("7,6");
        isRefused("7,7");
        isRefused("7-9,8");
        isRefused("7-9,9");
        isRefused("7x");
        isRefused("x");
        isRefused("07");
        isRefused("10000");
        isRefused("9999,");
        isRefused("1-2-3");
        isRefused(SIXTY.substring(0, 59) + ",");
        isRefused(SIXTY.substring(0, 59) + "-");
        isRefused(SIXTY.substring(0, 59) + "x");
        says("If several exceptions apply, the one that is named first in the throws clause is thrown.");
        refused("no such set, ahead of an empty buffer", INDEX, Bounds::fresh, x -> x.read(-1));
        refused("no such set, ahead of an incomplete text", INDEX, () -> typed("7,"), x -> x.read(4));
        refused("no such set, ahead of 61 members", INDEX, () -> typed("0-60"), x -> x.read(4));
        refused("a syntax error, ahead of 61 members", ARGUMENT, () -> typed("0-60x"), x -> x.read(0));
        refused("an incomplete text, ahead of 61 members", ARGUMENT, () -> typed("0-60,"), x -> x.read(0));
        refused("a number that is too small, ahead of 61 members", ARGUMENT, () -> typed("0-60,7"),
                x -> x.read(0));
    }

    private static void readOfSixty() {
        promise("Promise 11, read");
        says("Throws `IllegalStateException` if it would have more than 60 members");
        is("60 in one part", 60, () -> typed("0-59"), x -> x.read(0));
        is("60 up to the greatest one", 60, () -> typed("9940-9999"), x -> x.read(0));
        is("60 in two parts", 60, () -> typed("0-29,40-69"), x -> x.read(0));
        is("60, the last one alone", 60, () -> typed("0-58,9999"), x -> x.read(0));
        refused("61 in one part", STATE, () -> typed("0-60"), x -> x.read(0));
        refused("61 up to the greatest one", STATE, () -> typed("9939-9999"), x -> x.read(0));
        refused("61 in two parts", STATE, () -> typed("0-29,40-70"), x -> x.read(0));
        refused("61, the last one alone", STATE, () -> typed("0-59,9999"), x -> x.read(0));
        refused("10000", STATE, () -> typed("0-9999"), x -> x.read(0));
        refused("9999 and 1 more", STATE, () -> typed("0-9997,9999"), x -> x.read(0));
        refused("61 into a full set", STATE, () -> type(full(), "0-60"), x -> x.read(0));
        is("60 into a full set", 60, () -> type(full(), "100-159"), x -> x.read(0) * x.has(0, 159));
        says("Returns how many members it has.");
        is("1", 1, () -> typed("0"), x -> x.read(0));
        is("60", 60, () -> typed("0-59"), x -> then(x.read(0), x.of(0, 0)));
    }

    private static void readChanges() {
        promise("Promise 11, read");
        says("Makes a set the one in the buffer, and clears the buffer. Undoable.");
        saves("in place of members", Bounds::some, x -> x.read(0));
        saves("in place of none", Bounds::some, x -> x.read(2));
        saves("the same members", () -> type(sets("7"), "7"), x -> x.read(0));
        is("undone, the old members are back", "5 6", () -> type(sets("5,6"), "7"), x -> {
            x.read(0);
            x.undo();
            return members(x, 0);
        });
        is("undone, the buffer stays empty", 0, () -> typed("7"), x -> {
            x.read(0);
            x.undo();
            return x.clearBuffer();
        });
        is("refused, the text can be mended", "7 8", () -> typed("7,"), x -> {
            Check.badArgument("read of 7,", () -> x.read(0));
            x.append('8');
            x.read(0);
            return members(x, 0);
        });
    }

    // ---- promise 12

    private static void undo() {
        promise("Promise 12, undo");
        says("Throws `IllegalStateException` if there is none");
        refused("in a new object", STATE, Bounds::fresh, x -> x.undo());
        refused("with characters alone", STATE, () -> typed("7"), x -> x.undo());
        refused("twice behind one call", STATE, () -> {
            GapSets x = with(0, 7);
            x.undo();
            return x;
        }, x -> x.undo());
        refused("seven times in a full object", STATE, () -> {
            GapSets x = full();
            for (int time = 0; time < 6; time++) {
                x.undo();
            }
            return x;
        }, x -> x.undo());
        is("behind a refused call alone", STATE, Bounds::fresh, x -> {
            Check.badArgument("add of -1", () -> x.add(0, -1));
            return x.undo();
        });
        says("Returns how many saved states are left.");
        is("the only one", 0, () -> with(0, 7), x -> x.undo());
        is("of two", 1, () -> with(0, 7, 8), x -> x.undo());
        is("of six", "5 4 3 2 1 0", Bounds::full, x -> x.undo() + " " + x.undo() + " " + x.undo() + " "
                + x.undo() + " " + x.undo() + " " + x.undo());
        is("saved anew", 5, Bounds::full, x -> {
            x.undo();
            x.remove(0, 0);
            return x.undo();
        });
        says("Restores the latest saved state, and drops it.");
        is("one after the other", "7 8 / 7 / ", () -> with(0, 7, 8, 9), x -> then(x.undo(), members(x, 0))
                + " / " + then(x.undo(), members(x, 0)) + " / " + then(x.undo(), members(x, 0)));
        is("another call in place of the one undone", "7 9", () -> with(0, 7, 8), x -> {
            x.undo();
            x.add(0, 9);
            return members(x, 0);
        });
        is("behind that, the state ahead of both", "7", () -> with(0, 7, 8), x -> {
            x.undo();
            x.add(0, 9);
            x.undo();
            return members(x, 0);
        });
    }

    private static void undoOfEachPart() {
        promise("Promise 12, undo");
        says("Restores the latest saved state, and drops it.");
        for (int set = 0; set < 4; set++) {
            int n = set;
            is("60 members of set " + n, members(full(), n), Bounds::full, x -> {
                x.removeRange(n, 0, 9999);
                x.undo();
                return members(x, n);
            });
            is("an empty set " + n, "", Bounds::fresh, x -> {
                x.add(n, 0);
                x.undo();
                return members(x, n);
            });
        }
        is("setting 0", 8, Bounds::some, x -> {
            x.set(0, 16);
            x.undo();
            return x.setting(0);
        });
        is("setting 1", 300, Bounds::some, x -> {
            x.set(1, 9999);
            x.undo();
            return x.setting(1);
        });
        is("the oldest of six states, settings and sets", "8 300 / 7", () -> with(0, 7), x -> {
            settings(x, 2, 1);
            x.shift(0, 9);
            x.combine(1, 0, 0, 0);
            x.removeRange(0, 0, 9999);
            x.remove(1, 0);
            for (int time = 0; time < 6; time++) {
                x.undo();
            }
            return x.setting(0) + " " + x.setting(1) + " / " + members(x, 0) + members(x, 1);
        });
    }
}
