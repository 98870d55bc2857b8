/** Runs of calls, chosen by a fixed row of numbers, on the class and on the model side by side. */
public final class ModelTest {
    private static final int RUNS = 400;
    private static final int CALLS = 512;

    private final GapSets real = new GapSets();
    private final Model model = new Model();
    private final int style;
    private long seed;
    private int calls = 0;

    private ModelTest(int run) {
        style = run % 5;
        seed = 77777L * run + 1;
    }

    public static void main(String[] args) {
        for (int run = 0; run < RUNS; run++) {
            Check.part("run " + run);
            new ModelTest(run).run();
        }
        Check.end();
    }

    private void run() {
        both("digest()", real::digest, model::digest);
        for (int step = 1; step < CALLS; step++) {
            step(step);
        }
    }

    private int below(int bound) {
        seed = seed * 6364136223846793005L + 1442695040888963407L;
        return (int) Long.remainderUnsigned(seed >>> 33, bound);
    }

    /** Behind the 512th call an object's answers are free, so none is made then. */
    private void both(String what, Check.Call got, Check.Call want) {
        if (calls < CALLS) {
            calls++;
            Check.same(what, Check.answerOf(got), Check.answerOf(want));
        }
    }

    private int odd(int usual) {
        int[] odds = {-1, -2, 4, 10000, 5, 17, 61, Integer.MAX_VALUE, Integer.MIN_VALUE, -10000, 0};
        return below(40) == 0 ? odds[below(odds.length)] : usual;
    }

    private int set() {
        return odd(below(4));
    }

    private int what(int last) {
        return odd(below(last + 1));
    }

    /** Numbers lie dense, in steps near 128 and 300, or anywhere. */
    private int number() {
        int usual = switch (style) {
            case 0 -> below(80);
            case 1 -> below(70) * 127 + below(4);
            case 2 -> below(33) * 300 + below(3);
            case 3 -> below(10) == 0 ? 9999 - below(3) : below(400);
            default -> below(10000);
        };
        return odd(usual);
    }

    private void step(int step) {
        int kind = below(24);
        if (kind < 7) {
            add();
        } else if (kind < 10) {
            change();
        } else if (kind < 12) {
            text();
        } else if (kind < 20) {
            look();
        } else {
            wouldBe(step);
        }
    }

    private void add() {
        int s = set();
        int n = number();
        both("add(" + s + ", " + n + ")", () -> real.add(s, n), () -> model.add(s, n));
    }

    private void change() {
        int s = set();
        int n = number();
        switch (below(12)) {
            case 0, 1 -> both("remove(" + s + ", " + n + ")", () -> real.remove(s, n), () -> model.remove(s, n));
            case 2 -> {
                int to = odd(n + below(200) - 10);
                both("removeRange(" + s + ", " + n + ", " + to + ")",
                        () -> real.removeRange(s, n, to), () -> model.removeRange(s, n, to));
            }
            case 3, 4 -> {
                int by = odd(below(3) == 0 ? below(20001) - 10000 : below(101) - 50);
                both("shift(" + s + ", " + by + ")", () -> real.shift(s, by), () -> model.shift(s, by));
            }
            case 5, 6, 7 -> {
                int one = set();
                int other = set();
                int how = what(3);
                both("combine(" + s + ", " + one + ", " + other + ", " + how + ")",
                        () -> real.combine(s, one, other, how), () -> model.combine(s, one, other, how));
            }
            case 8, 9 -> {
                int setting = odd(below(2));
                int value = setting == 0 ? below(17) + 1 : odd(1 + below(below(2) == 0 ? 400 : 9999));
                both("set(" + setting + ", " + value + ")",
                        () -> real.set(setting, value), () -> model.set(setting, value));
            }
            default -> both("undo()", real::undo, model::undo);
        }
    }

    private void append(int code) {
        both("append(" + code + ")", () -> real.append(code), () -> model.append(code));
    }

    /** Also several appends at once, so that whole texts come about. */
    private void text() {
        switch (below(6)) {
            case 0 -> both("clearBuffer()", real::clearBuffer, model::clearBuffer);
            case 1 -> {
                int s = set();
                both("read(" + s + ")", () -> real.read(s), () -> model.read(s));
            }
            case 2 -> {
                both("clearBuffer()", real::clearBuffer, model::clearBuffer);
                int from = below(30);
                for (int part = 0; part < 1 + below(4); part++) {
                    type((part > 0 ? "," : "") + from);
                    from += below(20);
                    if (below(2) == 0) {
                        type("-" + from);
                    }
                    from += 1 + below(below(3) == 0 ? 3000 : 5) - (below(8) == 0 ? 1 : 0);
                }
                int s = set();
                both("firstError()", real::firstError, model::firstError);
                both("read(" + s + ")", () -> real.read(s), () -> model.read(s));
            }
            default -> {
                String signs = "0123456789999,,--a";
                append(below(60) == 0 ? odd(below(140)) : signs.charAt(below(signs.length())));
                both("firstError()", real::firstError, model::firstError);
            }
        }
    }

    private void type(String text) {
        text.chars().forEach(this::append);
    }

    private void look() {
        int s = set();
        int n = number();
        int place = odd(below(62));
        switch (below(9)) {
            case 0 -> both("has(" + s + ", " + n + ")", () -> real.has(s, n), () -> model.has(s, n));
            case 1 -> both("member(" + s + ", " + place + ")", () -> real.member(s, place), () -> model.member(s, place));
            case 2 -> both("less(" + s + ", " + n + ")", () -> real.less(s, n), () -> model.less(s, n));
            case 3 -> both("nearest(" + s + ", " + n + ")", () -> real.nearest(s, n), () -> model.nearest(s, n));
            case 4 -> {
                int b = odd(below(12));
                int w = what(5);
                both("block(" + s + ", " + b + ", " + w + ")", () -> real.block(s, b, w), () -> model.block(s, b, w));
            }
            case 5 -> {
                int w = what(7);
                both("of(" + s + ", " + w + ")", () -> real.of(s, w), () -> model.of(s, w));
            }
            case 6 -> {
                int other = set();
                int w = what(3);
                both("leaps(" + s + ", " + other + ", " + w + ")",
                        () -> real.leaps(s, other, w), () -> model.leaps(s, other, w));
            }
            case 7 -> {
                int w = what(6);
                both("count(" + w + ")", () -> real.count(w), () -> model.count(w));
            }
            default -> {
                int setting = odd(below(2));
                both("setting(" + setting + ")", () -> real.setting(setting), () -> model.setting(setting));
            }
        }
    }

    private void wouldBe(int step) {
        int s = set();
        int n = number();
        switch (below(6)) {
            case 0 -> {
                int most = odd(2 + below(15));
                int width = odd(1 + below(400));
                both("ifSet(" + s + ", " + most + ", " + width + ")",
                        () -> real.ifSet(s, most, width), () -> model.ifSet(s, most, width));
            }
            case 1 -> both("ifAdded(" + s + ", " + n + ")", () -> real.ifAdded(s, n), () -> model.ifAdded(s, n));
            case 2 -> {
                int w = what(1);
                both("dearest(" + s + ", " + w + ")", () -> real.dearest(s, w), () -> model.dearest(s, w));
            }
            case 3 -> both("smallness()", real::smallness, model::smallness);
            case 4 -> {
                if (step % 4 == 0) {
                    both("bestWidth()", real::bestWidth, model::bestWidth);
                }
            }
            default -> {
                if (step % 6 == 0) {
                    both("digest()", real::digest, model::digest);
                }
            }
        }
    }
}
