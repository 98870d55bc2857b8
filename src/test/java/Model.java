import java.util.ArrayDeque;
import java.util.ArrayList;
import java.util.HashSet;
import java.util.List;
import java.util.Set;
import java.util.TreeSet;

/**
 * A second reading of the document, by other means than the class: sorted sets, lists of blocks,
 * copies of whole states, and syntax errors found by completing the text.
 */
final class Model {
    private record Saved(List<TreeSet<Integer>> sets, int most, int width) {
    }

    private List<TreeSet<Integer>> sets = new ArrayList<>();
    private int most = 8;
    private int width = 300;
    private String buffer = "";
    private final ArrayDeque<Saved> saved = new ArrayDeque<>();

    Model() {
        for (int i = 0; i < 4; i++) {
            sets.add(new TreeSet<>());
        }
    }

    // ---- checks

    private static void noSuch(boolean bad) {
        if (bad) {
            throw new IndexOutOfBoundsException();
        }
    }

    private static void argument(boolean bad) {
        if (bad) {
            throw new IllegalArgumentException();
        }
    }

    private static void state(boolean bad) {
        if (bad) {
            throw new IllegalStateException();
        }
    }

    private TreeSet<Integer> the(int set) {
        noSuch(set < 0 || set > 3);
        return sets.get(set);
    }

    private static void number(int number) {
        argument(number < 0 || number > 9999);
    }

    private void save() {
        List<TreeSet<Integer>> copy = new ArrayList<>();
        for (TreeSet<Integer> s : sets) {
            copy.add(new TreeSet<>(s));
        }
        saved.addLast(new Saved(copy, most, width));
        if (saved.size() > 6) {
            saved.removeFirst();
        }
    }

    // ---- members

    int add(int set, int number) {
        TreeSet<Integer> s = the(set);
        number(number);
        state(!s.contains(number) && s.size() == 60);
        save();
        return s.add(number) ? 1 : 0;
    }

    int remove(int set, int number) {
        TreeSet<Integer> s = the(set);
        number(number);
        save();
        return s.remove(number) ? 1 : 0;
    }

    int removeRange(int set, int from, int to) {
        TreeSet<Integer> s = the(set);
        argument(from < 0 || from > 9999 || to < from || to > 9999);
        save();
        int before = s.size();
        s.subSet(from, true, to, true).clear();
        return before - s.size();
    }

    int shift(int set, int by) {
        TreeSet<Integer> s = the(set);
        argument(by < -9999 || by > 9999);
        TreeSet<Integer> moved = new TreeSet<>();
        for (int n : s) {
            state(n + by < 0 || n + by > 9999);
            moved.add(n + by);
        }
        save();
        sets.set(set, moved);
        return moved.isEmpty() ? -1 : moved.first();
    }

    int combine(int to, int one, int other, int how) {
        the(to);
        TreeSet<Integer> a = the(one);
        TreeSet<Integer> b = the(other);
        argument(how < 0 || how > 3);
        TreeSet<Integer> made = new TreeSet<>();
        for (int n = 0; n <= 9999; n++) {
            boolean inA = a.contains(n);
            boolean inB = b.contains(n);
            boolean in = how == 0 ? inA || inB : how == 1 ? inA && inB : how == 2 ? inA && !inB : inA != inB;
            if (in) {
                made.add(n);
            }
        }
        state(made.size() > 60);
        save();
        sets.set(to, made);
        return made.size();
    }

    int set(int setting, int value) {
        int before = setting(setting);
        argument(setting == 0 && (value < 2 || value > 16));
        argument(setting == 1 && (value < 1 || value > 9999));
        save();
        if (setting == 0) {
            most = value;
        } else {
            width = value;
        }
        return before;
    }

    // ---- texts

    int append(int code) {
        argument(code < 33 || code > 126);
        state(buffer.length() == 60);
        buffer += (char) code;
        return buffer.length();
    }

    int clearBuffer() {
        int length = buffer.length();
        buffer = "";
        return length;
    }

    int firstError() {
        for (int length = 1; length <= buffer.length(); length++) {
            if (!canGoOn(buffer.substring(0, length))) {
                return length - 1;
            }
        }
        return buffer.length();
    }

    /** Whether a set as a text begins so: if one does, then one ends with at most four nines more. */
    static boolean canGoOn(String text) {
        for (String more : List.of("", "9", "99", "999", "9999")) {
            if (partsOf(text + more) != null) {
                return true;
            }
        }
        return false;
    }

    /** The parts of a complete text as pairs, null if it is none. */
    static List<int[]> partsOf(String text) {
        List<int[]> parts = new ArrayList<>();
        int last = -1;
        for (String part : text.split(",", -1)) {
            if (!part.matches("(0|[1-9][0-9]{0,3})(-(0|[1-9][0-9]{0,3}))?")) {
                return null;
            }
            String[] ends = part.split("-");
            int from = Integer.parseInt(ends[0]);
            int to = Integer.parseInt(ends[ends.length - 1]);
            if (from <= last || to < from) {
                return null;
            }
            parts.add(new int[] {from, to});
            last = to;
        }
        return parts;
    }

    int read(int set) {
        the(set);
        List<int[]> parts = partsOf(buffer);
        argument(parts == null);
        TreeSet<Integer> made = new TreeSet<>();
        for (int[] part : parts) {
            for (int n = part[0]; n <= part[1]; n++) {
                made.add(n);
            }
        }
        state(made.size() > 60);
        save();
        sets.set(set, made);
        buffer = "";
        return made.size();
    }

    int undo() {
        state(saved.isEmpty());
        Saved latest = saved.removeLast();
        sets = latest.sets();
        most = latest.most();
        width = latest.width();
        return saved.size();
    }

    // ---- looks

    int has(int set, int number) {
        TreeSet<Integer> s = the(set);
        number(number);
        return s.contains(number) ? 1 : 0;
    }

    int member(int set, int place) {
        TreeSet<Integer> s = the(set);
        argument(place < 0);
        return place < s.size() ? new ArrayList<>(s).get(place) : -1;
    }

    int less(int set, int number) {
        TreeSet<Integer> s = the(set);
        number(number);
        return s.headSet(number).size();
    }

    int nearest(int set, int number) {
        TreeSet<Integer> s = the(set);
        number(number);
        for (int far = 0; far <= 9999; far++) {
            if (s.contains(number - far)) {
                return number - far;
            }
            if (s.contains(number + far)) {
                return number + far;
            }
        }
        return -1;
    }

    static List<List<Integer>> blocksOf(TreeSet<Integer> s, int most, int width) {
        List<List<Integer>> blocks = new ArrayList<>();
        TreeSet<Integer> left = new TreeSet<>(s);
        while (!left.isEmpty()) {
            List<Integer> block = new ArrayList<>();
            block.add(left.pollFirst());
            while (!left.isEmpty() && block.size() < most
                    && left.first() - block.get(block.size() - 1) <= width) {
                block.add(left.pollFirst());
            }
            blocks.add(block);
        }
        return blocks;
    }

    private List<List<Integer>> blocksOf(int set) {
        return blocksOf(sets.get(set), most, width);
    }

    private static List<Integer> gapsOf(List<Integer> row) {
        List<Integer> gaps = new ArrayList<>();
        for (int i = 1; i < row.size(); i++) {
            gaps.add(row.get(i) - row.get(i - 1));
        }
        return gaps;
    }

    private static int bytesOf(List<Integer> block) {
        return 3 + gapsOf(block).stream().mapToInt(g -> g < 128 ? 1 : 2).sum();
    }

    static int sizeOf(TreeSet<Integer> s, int most, int width) {
        return blocksOf(s, most, width).stream().mapToInt(Model::bytesOf).sum();
    }

    int block(int set, int block, int what) {
        the(set);
        argument(block < 0 || what < 0 || what > 5);
        List<List<Integer>> blocks = blocksOf(set);
        if (block >= blocks.size()) {
            return -1;
        }
        List<Integer> b = blocks.get(block);
        return switch (what) {
            case 0 -> b.get(0);
            case 1 -> b.size();
            case 2 -> b.get(b.size() - 1);
            case 3 -> bytesOf(b);
            case 4 -> gapsOf(b).stream().mapToInt(g -> g).max().orElse(0);
            default -> blocks.subList(0, block).stream().mapToInt(List::size).sum();
        };
    }

    int of(int set, int what) {
        TreeSet<Integer> s = the(set);
        argument(what < 0 || what > 7);
        return switch (what) {
            case 0 -> s.size();
            case 1 -> blocksOf(set).size();
            case 2 -> sizeOf(s, most, width);
            case 3 -> 2 * s.size();
            case 4 -> s.isEmpty() ? -1 : s.first();
            case 5 -> s.isEmpty() ? -1 : s.last();
            case 6 -> longestRow(s);
            default -> (int) blocksOf(set).stream().flatMap(b -> gapsOf(b).stream()).filter(g -> g > 127).count();
        };
    }

    private static int longestRow(TreeSet<Integer> s) {
        int longest = 0;
        for (int n : s) {
            int length = 1;
            while (s.contains(n + length)) {
                length++;
            }
            longest = Math.max(longest, length);
        }
        return longest;
    }

    /** The text of "Leaps", sentence by sentence, with members looked up by their value. */
    private final class Side {
        final TreeSet<Integer> members;
        final List<List<Integer>> blocks;
        int reached = -1;
        int leaps = 0;
        int looks = 0;

        Side(int set) {
            members = sets.get(set);
            blocks = blocksOf(set);
        }

        Integer leap(int number) {
            leaps++;
            if (members.isEmpty()) {
                return null;
            }
            int at = 0;
            for (int b = 0; b < blocks.size(); b++) {
                if (blocks.get(b).contains(reached)) {
                    at = b;
                }
            }
            while (at + 1 < blocks.size()) {
                looks++;
                if (blocks.get(at + 1).get(0) > number) {
                    break;
                }
                at++;
            }
            for (int n : blocks.get(at)) {
                looks++;
                if (n >= number) {
                    reached = n;
                    return n;
                }
            }
            if (at + 1 == blocks.size()) {
                return null;
            }
            looks++;
            reached = blocks.get(at + 1).get(0);
            return reached;
        }
    }

    int leaps(int one, int other, int what) {
        the(one);
        the(other);
        argument(what < 0 || what > 3);
        Side first = new Side(one);
        Side second = new Side(other);
        int common = 0;
        Integer candidate = first.members.isEmpty() ? null : first.members.first();
        while (candidate != null) {
            first.reached = candidate;
            Integer found = second.leap(candidate);
            if (found == null) {
                break;
            }
            if (found.equals(candidate)) {
                common++;
                candidate = first.members.higher(candidate);
            } else {
                candidate = first.leap(found);
            }
        }
        return new int[] {common, first.leaps, second.leaps, first.looks + second.looks}[what];
    }

    int count(int what) {
        argument(what < 0 || what > 6);
        return switch (what) {
            case 0 -> sets.stream().mapToInt(TreeSet::size).sum();
            case 1 -> all().size();
            case 2 -> (int) all().stream().filter(n -> sets.stream().allMatch(s -> s.contains(n))).count();
            case 3 -> sizes(width);
            case 4 -> blocksOf(0).size() + blocksOf(1).size() + blocksOf(2).size() + blocksOf(3).size();
            case 5 -> pairs();
            default -> saved.size();
        };
    }

    private Set<Integer> all() {
        Set<Integer> all = new HashSet<>();
        sets.forEach(all::addAll);
        return all;
    }

    private int pairs() {
        int pairs = 0;
        for (int i = 0; i < 4; i++) {
            for (int j = 0; j < i; j++) {
                pairs += sets.get(i).equals(sets.get(j)) ? 1 : 0;
            }
        }
        return pairs;
    }

    private int sizes(int width) {
        return sets.stream().mapToInt(s -> sizeOf(s, most, width)).sum();
    }

    int setting(int setting) {
        noSuch(setting != 0 && setting != 1);
        return setting == 0 ? most : width;
    }

    // ---- what would be

    int ifSet(int set, int most, int width) {
        TreeSet<Integer> s = the(set);
        argument(most < 2 || most > 16 || width < 1 || width > 9999);
        return sizeOf(s, most, width);
    }

    int ifAdded(int set, int number) {
        TreeSet<Integer> s = the(set);
        number(number);
        TreeSet<Integer> more = new TreeSet<>(s);
        more.add(number);
        return sizeOf(more, most, width) - sizeOf(s, most, width);
    }

    int dearest(int set, int what) {
        TreeSet<Integer> s = the(set);
        argument(what < 0 || what > 1);
        int[] best = {-1, -1};
        for (int n : s.descendingSet()) {
            TreeSet<Integer> fewer = new TreeSet<>(s);
            fewer.remove(n);
            int size = sizeOf(fewer, most, width);
            if (best[0] < 0 || size <= best[1]) {
                best = new int[] {n, size};
            }
        }
        return best[what];
    }

    int bestWidth() {
        TreeSet<Integer> widths = new TreeSet<>();
        sets.forEach(s -> widths.addAll(gapsOf(new ArrayList<>(s))));
        widths.add(1);
        int best = 0;
        for (int w : widths.descendingSet()) {
            if (best == 0 || sizes(w) <= sizes(best)) {
                best = w;
            }
        }
        return best;
    }

    double smallness() {
        return count(0) == 0 ? 1.0 : (double) count(3) / (2 * count(0));
    }

    long digest() {
        List<Long> values = new ArrayList<>();
        for (int i = 0; i <= 6; i++) {
            values.add((long) count(i));
        }
        values.add((long) most);
        values.add((long) width);
        for (int set = 0; set < 4; set++) {
            for (int i = 0; i <= 7; i++) {
                values.add((long) of(set, i));
            }
            sets.get(set).forEach(n -> values.add((long) n));
            for (int b = 0; b < of(set, 1); b++) {
                for (int i = 0; i <= 5; i++) {
                    values.add((long) block(set, b, i));
                }
            }
            values.add((long) dearest(set, 0));
            values.add((long) dearest(set, 1));
            values.add((long) ifAdded(set, 5000));
            values.add((long) nearest(set, 5000));
            for (int i = 0; i <= 3; i++) {
                values.add((long) leaps(set, 0, i));
            }
        }
        values.add((long) bestWidth());
        values.add(Double.doubleToLongBits(smallness()));
        values.add((long) buffer.length());
        buffer.chars().forEach(c -> values.add((long) c));
        long hash = 2617;
        for (long v : values) {
            hash = 31 * hash + v;
        }
        return hash;
    }
}
