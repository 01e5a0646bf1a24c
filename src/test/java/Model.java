import java.util.ArrayList;
import java.util.Arrays;
import java.util.Collections;
import java.util.LinkedHashSet;
import java.util.List;
import java.util.TreeSet;

/** The document once more, as plainly as it can be said and by other means than the program's. */
final class Model {
    int mood;
    List<List<Integer>> parents = new ArrayList<>();
    int[][] ways = new int[10][8];
    List<String> says;
    List<String> seen;

    Model copy() {
        Model m = new Model();
        m.mood = mood;
        for (List<Integer> row : parents) {
            m.parents.add(new ArrayList<>(row));
        }
        for (int c = 0; c < 10; c++) {
            m.ways[c] = ways[c].clone();
        }
        m.says = says;
        m.seen = seen;
        return m;
    }

    int classes() {
        return parents.size();
    }

    boolean isClass(long c) {
        return c >= 0 && c < classes();
    }

    // ---- orders

    /** The order of a class with these parents (its own number first), null if it has none. */
    List<Integer> merge(int c, List<Integer> kin) {
        List<List<Integer>> rows = new ArrayList<>();
        for (int p : kin) {
            List<Integer> row = order(p);
            if (row == null) {
                return null;
            }
            rows.add(new ArrayList<>(row));
        }
        rows.add(new ArrayList<>(kin));
        List<Integer> result = new ArrayList<>(List.of(c));
        while (rows.stream().anyMatch(r -> !r.isEmpty())) {
            Integer good = null;
            for (List<Integer> row : rows) {
                if (good == null && !row.isEmpty()
                    && rows.stream().noneMatch(r -> r.lastIndexOf(row.get(0)) > 0)) {
                    good = row.get(0);
                }
            }
            if (good == null) {
                return null;
            }
            result.add(good);
            for (List<Integer> row : rows) {
                row.remove(good);
            }
        }
        return result;
    }

    List<Integer> order(int c) {
        return merge(c, parents.get(c));
    }

    int stateBy(List<Integer> kin) {
        for (int p : kin) {
            if (order(p) == null) {
                return 2;
            }
        }
        return merge(99, kin) == null ? 1 : 0;
    }

    int state(int c) {
        return stateBy(parents.get(c));
    }

    int bits(int state) {
        int bits = 0;
        for (int c = 0; c < classes(); c++) {
            bits |= state(c) == state ? 1 << c : 0;
        }
        return bits;
    }

    int above(int c) {
        int bits = 1 << c;
        for (int p : parents.get(c)) {
            bits |= above(p);
        }
        return bits;
    }

    int links() {
        return parents.stream().mapToInt(List::size).sum();
    }

    // ---- deeds

    int give(long c, long p) {
        if (!isClass(c) || !isClass(p) || p >= c) {
            return 1;
        }
        List<Integer> row = parents.get((int) c);
        if (row.contains((int) p) || row.size() == 4) {
            return 2;
        }
        row.add((int) p);
        return 0;
    }

    int take(long c, long p) {
        if (!isClass(c) || !isClass(p)) {
            return 1;
        }
        return parents.get((int) c).remove((Integer) (int) p) ? 0 : 2;
    }

    int swap(long c, long place) {
        if (!isClass(c)) {
            return 1;
        }
        List<Integer> row = parents.get((int) c);
        if (place < 0 || place + 1 >= row.size()) {
            return 2;
        }
        Collections.swap(row, (int) place, (int) place + 1);
        return 0;
    }

    int define(long c, long m, long way) {
        if (!isClass(c) || m < 0 || m > 7 || way < 0 || way > 2) {
            return 1;
        }
        if (way == 2 && ways[(int) c][(int) m] == 0) {
            return 2;
        }
        ways[(int) c][(int) m] = way == 2 ? 0 : (int) way + 1;
        return 0;
    }

    int setMood(long n) {
        if (n < 0 || n > 9) {
            return 1;
        }
        mood = (int) n;
        return 0;
    }

    int deed(long v) {
        if (v >= 10 && v <= 19) {
            return setMood(v - 10);
        }
        if (v >= 100 && v <= 199) {
            return give((v - 100) / 10, v % 10);
        }
        if (v >= 200 && v <= 299) {
            return take((v - 200) / 10, v % 10);
        }
        if (v >= 300 && v <= 399) {
            return swap((v - 300) / 10, v % 10);
        }
        if (v >= 1000 && v <= 1299) {
            return define((v - 1000) % 10, (v - 1000) / 10 % 10, (v - 1000) / 100);
        }
        return 1;
    }

    // ---- demands

    TreeSet<Integer> demands(int c) {
        TreeSet<Integer> pairs = new TreeSet<>();
        List<List<Integer>> rows = new ArrayList<>();
        rows.add(parents.get(c));
        for (int p : parents.get(c)) {
            pairs.add(10 * c + p);
            rows.add(order(p));
        }
        for (List<Integer> row : rows) {
            for (int i = 0; i < row.size(); i++) {
                for (int j = i + 1; j < row.size(); j++) {
                    pairs.add(10 * row.get(i) + row.get(j));
                }
            }
        }
        return pairs;
    }

    /** Tries rows of 2, 3, .. classes in their order. */
    List<Integer> ring(TreeSet<Integer> pairs) {
        for (int length = 2; length <= 10; length++) {
            List<Integer> row = new ArrayList<>();
            if (closes(pairs, row, length)) {
                return row;
            }
        }
        return List.of();
    }

    private boolean closes(TreeSet<Integer> pairs, List<Integer> row, int length) {
        if (row.size() == length) {
            return pairs.contains(10 * row.get(length - 1) + row.get(0));
        }
        for (int c = 0; c < 10; c++) {
            boolean fits = row.isEmpty()
                || c > row.get(0) && !row.contains(c) && pairs.contains(10 * row.get(row.size() - 1) + c);
            if (fits) {
                row.add(c);
                if (closes(pairs, row, length)) {
                    return true;
                }
                row.remove(row.size() - 1);
            }
        }
        return false;
    }

    /** All rows that meet the demands, in their order. */
    void rows(TreeSet<Integer> pairs, int left, List<Integer> row, List<List<Integer>> into) {
        if (left == 0) {
            into.add(new ArrayList<>(row));
            return;
        }
        for (int c = 0; c < 10; c++) {
            if ((left >> c & 1) == 0) {
                continue;
            }
            int one = c;
            boolean free = pairs.stream().noneMatch(p -> p % 10 == one && (left >> p / 10 & 1) != 0);
            if (free) {
                row.add(c);
                rows(pairs, left & ~(1 << c), row, into);
                row.remove(row.size() - 1);
            }
        }
    }

    // ---- old orders

    List<Integer> old(int c, int kind) {
        List<Integer> all = new ArrayList<>();
        if (kind == 3) {
            List<Integer> level = List.of(c);
            while (!level.isEmpty()) {
                all.addAll(level);
                List<Integer> next = new ArrayList<>();
                for (int one : level) {
                    next.addAll(parents.get(one));
                }
                level = next;
            }
        } else {
            deep(c, all);
        }
        if (kind == 2) {
            Collections.reverse(all);
        }
        List<Integer> row = new ArrayList<>(new LinkedHashSet<>(all));
        if (kind == 2) {
            Collections.reverse(row);
        }
        return row;
    }

    private void deep(int c, List<Integer> into) {
        into.add(c);
        for (int p : parents.get(c)) {
            deep(p, into);
        }
    }

    // ---- calls

    List<Integer> through(int c, int m, int byMood) {
        List<Integer> row = new ArrayList<>();
        for (int in : order(c)) {
            boolean there = ways[in][m] != 0;
            if (there && (seen == null || new Law(seen, m, in, c, byMood, 0, 0).truth())) {
                row.add(in);
                if (ways[in][m] == 1) {
                    break;
                }
            }
        }
        return row;
    }

    /** What a call says, or null. */
    Integer call(int c, int m, int byMood) {
        List<Integer> row = through(c, m, byMood);
        return row.isEmpty() ? null : said(row, 0, c, m, byMood);
    }

    private int said(List<Integer> row, int i, int c, int m, int byMood) {
        if (i == row.size()) {
            return 0;
        }
        int next = said(row, i + 1, c, m, byMood);
        int in = row.get(i);
        if (says == null) {
            return Law.kept(10 * in + m + next);
        }
        return new Law(says, m, in, c, byMood, next, order(c).indexOf(in)).sum();
    }

    TreeSet<Integer> dead() {
        TreeSet<Integer> dead = new TreeSet<>();
        for (int c = 0; c < classes(); c++) {
            for (int m = 0; m < 8; m++) {
                if (ways[c][m] != 0) {
                    dead.add(10 * c + m);
                }
            }
        }
        for (int c = 0; c < classes(); c++) {
            for (int m = 0; m < 8 && order(c) != null; m++) {
                for (int in : through(c, m, mood)) {
                    dead.remove(10 * in + m);
                }
            }
        }
        return dead;
    }

    // ---- others

    /** The first fewest links (as 10 times the class and the parent), null if more than three. */
    List<Integer> repairs() {
        List<Integer> all = new ArrayList<>();
        for (int c = 0; c < classes(); c++) {
            for (int p : parents.get(c)) {
                all.add(10 * c + p);
            }
        }
        for (int n = 0; n <= 3; n++) {
            List<Integer> found = repairs(all, 0, new ArrayList<>(), n);
            if (found != null) {
                return found;
            }
        }
        return null;
    }

    private List<Integer> repairs(List<Integer> all, int from, List<Integer> taken, int n) {
        if (n == 0) {
            Model m = copy();
            taken.forEach(link -> m.take(link / 10, link % 10));
            return m.bits(0) == (1 << classes()) - 1 ? new ArrayList<>(taken) : null;
        }
        for (int i = from; i < all.size(); i++) {
            taken.add(all.get(i));
            List<Integer> found = repairs(all, i + 1, taken, n - 1);
            taken.remove(taken.size() - 1);
            if (found != null) {
                return found;
            }
        }
        return null;
    }

    int wouldWays(List<Integer> kin, List<Integer> row) {
        if (row.size() == kin.size()) {
            return stateBy(row) == 0 ? 1 : 0;
        }
        int found = 0;
        for (int p : kin) {
            if (!row.contains(p)) {
                row.add(p);
                found += wouldWays(kin, row);
                row.remove(row.size() - 1);
            }
        }
        return found;
    }

    // ---- told

    int moods(long[] told) {
        int bits = 0;
        for (int by = 0; by < 10; by++) {
            boolean so = true;
            for (long v : told) {
                String digits = String.format("%020d", v);
                int c = Integer.parseInt(digits.substring(0, 13));
                int m = Integer.parseInt(digits.substring(13, 15));
                Integer said = call(c, m, by);
                so &= said != null && said + 50000 == Integer.parseInt(digits.substring(15));
            }
            bits |= so ? 1 << by : 0;
        }
        return bits;
    }

    int attempt(int bits) {
        int best = -1;
        int least = 99;
        for (int c = 0; c < classes() && bits != 0; c++) {
            for (int m = 0; m < 8 && order(c) != null; m++) {
                List<Integer> answers = new ArrayList<>();
                for (int by = 0; by < 10; by++) {
                    if ((bits >> by & 1) != 0) {
                        Integer said = call(c, m, by);
                        answers.add(said == null ? Integer.MAX_VALUE : said);
                    }
                }
                int most = answers.stream().mapToInt(a -> Collections.frequency(answers, a)).max().getAsInt();
                if (most < least) {
                    least = most;
                    best = 10 * c + m;
                }
            }
        }
        return best;
    }

    // ---- chances

    /** Of all draws of n lots: by how many all have an order, and how many have one, added. */
    int[] chances(int n) {
        if (n == 0) {
            int ordered = Integer.bitCount(bits(0));
            return new int[] {ordered == classes() ? 1 : 0, ordered};
        }
        int[] sum = new int[2];
        for (int lot = 0; lot < 10; lot++) {
            Model m = copy();
            m.swap(lot, 0);
            int[] part = m.chances(n - 1);
            sum[0] += part[0];
            sum[1] += part[1];
        }
        return sum;
    }

    /** A law worked out as it is read. */
    static final class Law {
        private final List<String> words;
        private int at;
        private final List<String> names = Arrays.asList("method", "in", "for", "mood", "next", "depth");
        private final int[] values;

        Law(List<String> words, int m, int in, int c, int mood, int next, int depth) {
            this.words = words;
            values = new int[] {m, in, c, mood, next, depth};
        }

        static int kept(long v) {
            return (int) Math.min(1000000, Math.max(-1000000, v));
        }

        private boolean next(String word) {
            boolean so = at < words.size() && words.get(at).equals(word);
            at += so ? 1 : 0;
            return so;
        }

        int sum() {
            int v = term();
            while (true) {
                if (next("+")) {
                    v = kept((long) v + term());
                } else if (next("-")) {
                    v = kept((long) v - term());
                } else {
                    return v;
                }
            }
        }

        private int term() {
            int v = atom();
            while (next("*")) {
                v = kept((long) v * atom());
            }
            return v;
        }

        private int atom() {
            if (next("(")) {
                int v = sum();
                next(")");
                return v;
            }
            if (next("if")) {
                boolean so = truth();
                next("then");
                int then = sum();
                next("else");
                int otherwise = sum();
                next("end");
                return so ? then : otherwise;
            }
            String word = words.get(at++);
            int name = names.indexOf(word);
            return name >= 0 ? values[name] : Integer.parseInt(word);
        }

        boolean truth() {
            boolean v = both();
            while (next("or")) {
                v |= both();
            }
            return v;
        }

        private boolean both() {
            boolean v = unit();
            while (next("and")) {
                v &= unit();
            }
            return v;
        }

        private boolean unit() {
            if (next("not")) {
                return !unit();
            }
            if (next("[")) {
                boolean v = truth();
                next("]");
                return v;
            }
            int first = sum();
            if (next("=")) {
                return first == sum();
            }
            if (next("<")) {
                return first < sum();
            }
            next(">");
            return first > sum();
        }
    }
}
