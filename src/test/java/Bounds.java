/**
 * What the tests of the boundary cases share. Each case names its promise, the sentence of the document that
 * it is about, and itself; it makes its objects anew, and uses none of them for more than 512 calls.
 */
abstract class Bounds {
    static final int MIN = Integer.MIN_VALUE;
    static final int MAX = Integer.MAX_VALUE;

    static final String INDEX = "throws.IndexOutOfBoundsException";
    static final String ARGUMENT = "throws.IllegalArgumentException";
    static final String STATE = "throws.IllegalStateException";

    /** Sixty characters, a complete set as a text. */
    static final String SIXTY = "0,1,2,3,4,5,6,7,8,9,10,11,12,13,14,15,16,17,18,19,20,21,2222";

    interface Make {
        GapSets make();
    }

    interface Use {
        Object on(GapSets x);
    }

    interface UseOf {
        Object on(GapSets x, int argument);
    }

    private static String says = "";

    static void promise(String name) {
        Check.part(name);
        says = "";
    }

    /** The sentence of the document that the next cases are about, in its own words. */
    static void says(String sentence) {
        says = sentence;
    }

    // ---- kinds of cases

    static void is(String theCase, Object due, Make from, Use use) {
        Check.due("'" + says + "': " + theCase, () -> use.on(from.make()), due);
    }

    /** The call throws this exception, and all that can be seen of the object stays as it was. */
    static void refused(String theCase, String exception, Make from, Use use) {
        GapSets x = from.make();
        Check.due("'" + says + "': " + theCase, () -> use.on(x), exception);
        Check.due("'A call that throws an exception changes nothing.': " + theCase,
                () -> traceOf(x), Check.answerOf(() -> traceOf(from.make())));
    }

    /** The call throws nothing, and all that can be seen of the object stays as it was. */
    static void keeps(String theCase, Make from, Use use) {
        GapSets x = from.make();
        String answer = Check.answerOf(() -> use.on(x));
        Check.same("'" + says + "': " + theCase + " throws", answer.startsWith("throws."), false);
        Check.due("'" + says + "': " + theCase + " changes nothing",
                () -> traceOf(x), Check.answerOf(() -> traceOf(from.make())));
    }

    /** The call saves the state from before it: one state more is saved, and undo leads back to it. */
    static void saves(String theCase, Make from, Use use) {
        is(theCase + " saves one state more", 1, from, x -> {
            int before = x.count(6);
            use.on(x);
            return x.count(6) - before;
        });
        is(theCase + " is undone whole", lookOf(from.make()), from, x -> {
            use.on(x);
            x.undo();
            return lookOf(x);
        });
    }

    /** As refused, for each of the arguments, in a new object, one with a bit of all, and a full one. */
    static void refusedEverywhere(String theCase, String exception, int[] arguments, UseOf use) {
        for (int argument : arguments) {
            String named = theCase + " " + argument;
            refused(named + " of a new object", exception, Bounds::fresh, x -> use.on(x, argument));
            refused(named + " of some object", exception, Bounds::some, x -> use.on(x, argument));
            refused(named + " of a full object", exception, Bounds::full, x -> use.on(x, argument));
        }
    }

    static void keepsEverywhere(String theCase, Use use) {
        keeps(theCase + " of a new object", Bounds::fresh, use);
        keeps(theCase + " of some object", Bounds::some, use);
        keeps(theCase + " of a full object", Bounds::full, use);
    }

    /** Just outside of 0 to 3, and the least and the greatest int. */
    static void noSuchSet(UseOf use) {
        says("Throws `IndexOutOfBoundsException` if there is no such set");
        refusedEverywhere("set", INDEX, outside(0, 3), use);
    }

    static int[] outside(int least, int greatest) {
        return new int[] {least - 1, greatest + 1, MIN, MAX};
    }

    // ---- objects

    static GapSets fresh() {
        return new GapSets();
    }

    /** Sets of some members each, with gaps on both sides of 127 and of 300, a bit of buffer and history. */
    static GapSets some() {
        GapSets x = new GapSets();
        type(x, "10-13,140,141,442,443,571");
        x.read(0);
        put(x, 1, 11, 13, 442, 9000);
        put(x, 3, 5, 6, 7);
        // Two states are free then, with older ones in their places.
        x.undo();
        x.undo();
        return type(x, "7,9");
    }

    /** Sixty members in each set, six saved states, and sixty characters. */
    static GapSets full() {
        GapSets x = new GapSets();
        for (int n = 0; n < 60; n++) {
            x.add(2, 169 * n);
        }
        type(x, "0-59");
        x.read(0);
        type(x, "9940-9999");
        x.read(1);
        type(x, "30-89");
        x.read(3);
        type(x, SIXTY);
        return x;
    }

    static GapSets with(int set, int... numbers) {
        return put(new GapSets(), set, numbers);
    }

    static GapSets put(GapSets x, int set, int... numbers) {
        for (int number : numbers) {
            x.add(set, number);
        }
        return x;
    }

    static GapSets type(GapSets x, String text) {
        x.clearBuffer();
        for (char c : text.toCharArray()) {
            x.append(c);
        }
        return x;
    }

    static GapSets typed(String text) {
        return type(new GapSets(), text);
    }

    /** An object whose sets are these texts, "" for an empty one. */
    static GapSets sets(String... texts) {
        GapSets x = new GapSets();
        for (int set = 0; set < texts.length; set++) {
            if (!texts[set].isEmpty()) {
                type(x, texts[set]);
                x.read(set);
            }
        }
        return x;
    }

    static GapSets settings(GapSets x, int most, int width) {
        x.set(0, most);
        x.set(1, width);
        return x;
    }

    // ---- what can be seen

    /** What is seen after a call whose own answer is not what the case is about. */
    static Object then(Object answer, Object seen) {
        return seen;
    }

    static String members(GapSets x, int set) {
        StringBuilder all = new StringBuilder();
        for (int place = 0; place < 61 && x.member(set, place) != GapSets.NONE; place++) {
            all.append(place > 0 ? " " : "").append(x.member(set, place));
        }
        return all.toString();
    }

    /** The blocks of a set, each as its base, its greatest member, and how many these are. */
    static String blocks(GapSets x, int set) {
        StringBuilder all = new StringBuilder();
        for (int block = 0; block < 61 && x.block(set, block, 0) != GapSets.NONE; block++) {
            all.append(block > 0 ? " " : "").append(x.block(set, block, 0)).append("..");
            all.append(x.block(set, block, 2)).append(':').append(x.block(set, block, 1));
        }
        return all.toString();
    }

    static String properties(GapSets x, int set) {
        StringBuilder all = new StringBuilder();
        for (int what = 0; what <= 7; what++) {
            all.append(what > 0 ? " " : "").append(x.of(set, what));
        }
        return all.toString();
    }

    static String leaps(GapSets x, int one, int other) {
        return x.leaps(one, other, 0) + " " + x.leaps(one, other, 1) + " " + x.leaps(one, other, 2)
                + " " + x.leaps(one, other, 3);
    }

    /** The state without the buffer: sets, settings and how many states are saved. */
    static String lookOf(GapSets x) {
        StringBuilder look = new StringBuilder();
        for (int set = 0; set < 4; set++) {
            look.append(properties(x, set)).append(" / ");
        }
        look.append(x.setting(0)).append(' ').append(x.setting(1)).append(" / ").append(x.count(6));
        return look.toString();
    }

    /** All that can be seen of an object; it uses the object up. */
    static String traceOf(GapSets x) {
        StringBuilder trace = new StringBuilder();
        trace.append(x.firstError()).append(' ');
        for (int saved = x.count(6); saved >= 0; saved--) {
            trace.append(x.digest()).append(' ').append(lookOf(x)).append(" // ");
            if (saved > 0) {
                x.undo();
            }
        }
        return trace.append(x.clearBuffer()).toString();
    }
}
