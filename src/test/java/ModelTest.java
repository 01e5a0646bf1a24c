import java.util.ArrayList;
import java.util.List;
import java.util.Random;
import java.util.TreeSet;

/** All promises: houses, deeds and questions by draws, each answer compared with the model's. */
public final class ModelTest {
    private static final Check CHECK = new Check();
    private static final int HOUSES = 150;

    private final Random random;
    private OrderMerge x;
    private Model model;
    private List<Model> past = new ArrayList<>();
    private final Model[] images = new Model[2];
    private int lines;
    private final int[] imageLines = new int[2];

    private ModelTest(int seed) {
        random = new Random(seed);
    }

    public static void main(String[] args) {
        int from = args.length > 0 ? Integer.parseInt(args[0]) : 0;
        int houses = args.length > 1 ? Integer.parseInt(args[1]) : HOUSES;
        for (int seed = from; seed < from + houses; seed++) {
            new ModelTest(seed).run();
        }
        CHECK.end();
    }

    private static void due(String what, long got, long want) {
        CHECK.due(what, got, want);
    }

    private int draw(int bound) {
        return random.nextInt(bound);
    }

    private void run() {
        x = new OrderMerge();
        model = new Model();
        for (int i = 0; i < 3; i++) {
            newHouse();
            askAll();
            for (int j = 0; j < 6; j++) {
                change();
                askOrders();
                askCalls();
            }
            askAll();
        }
    }

    // ---- texts

    private void newHouse() {
        Model m = new Model();
        StringBuilder text = new StringBuilder();
        m.mood = draw(10);
        text.append("house mood ").append(m.mood).append(";");
        int count = 1;
        int classes = 1 + draw(10);
        int thick = 1 + draw(4);
        for (int c = 0; c < classes; c++) {
            List<Integer> row = new ArrayList<>();
            text.append("class");
            for (int i = draw(thick + 1); i > 0; i--) {
                int p = c == 0 ? 0 : draw(c);
                if (c > 0 && !row.contains(p)) {
                    row.add(p);
                    text.append(" ").append(p);
                }
            }
            m.parents.add(row);
            text.append(";");
            count++;
        }
        for (int i = draw(20); i > 0; i--) {
            int c = draw(classes);
            int method = draw(1 + draw(8));
            boolean ends = draw(3) == 0;
            m.ways[c][method] = ends ? 1 : 2;
            text.append("method ").append(method).append("in ").append(c).append(ends ? "ends;" : "next;");
            count++;
        }
        for (int i = draw(3); i > 0 && text.length() < 800; i--) {
            boolean says = draw(2) == 0;
            List<String> law = new ArrayList<>();
            do {
                law.clear();
                if (says) {
                    sum(law, 0, true);
                } else {
                    truth(law, 0, false);
                }
            } while (text.length() + String.join(" ", law).length() > 880);
            text.append(says ? "says:" : "seen:").append(String.join(" ", law)).append(";\n");
            if (says) {
                m.says = law;
            } else {
                m.seen = law;
            }
            count++;
        }
        due("3: " + text, Check.tell(x, text.toString()), count);
        model = m;
        past.clear();
        lines = count;
    }

    private void sum(List<String> law, int nested, boolean says) {
        term(law, nested, says);
        for (int i = draw(3); i > 0; i--) {
            law.add(draw(2) == 0 ? "+" : "-");
            term(law, nested, says);
        }
    }

    private void term(List<String> law, int nested, boolean says) {
        atom(law, nested, says);
        for (int i = draw(5); i > 2; i--) {
            law.add("*");
            atom(law, nested, says);
        }
    }

    private void atom(List<String> law, int nested, boolean says) {
        String[] names = {"method", "in", "for", "mood", "mood", "next", "depth"};
        int kind = draw(nested < 3 ? 9 : 7);
        if (kind < 2) {
            law.add(Integer.toString(draw(3) == 0 ? draw(1000) : draw(10)));
        } else if (kind < 7) {
            law.add(names[draw(says ? 7 : 5)]);
        } else if (kind == 7) {
            law.add("(");
            sum(law, nested + 1, says);
            law.add(")");
        } else {
            law.add("if");
            truth(law, nested + 1, says);
            law.add("then");
            sum(law, nested + 1, says);
            law.add("else");
            sum(law, nested + 1, says);
            law.add("end");
        }
    }

    private void truth(List<String> law, int nested, boolean says) {
        unit(law, nested, says);
        for (int i = draw(4); i > 1; i--) {
            law.add(draw(2) == 0 ? "and" : "or");
            unit(law, nested, says);
        }
    }

    private void unit(List<String> law, int nested, boolean says) {
        int kind = draw(nested < 4 ? 6 : 4);
        if (kind == 4) {
            law.add("not");
            unit(law, nested + 1, says);
        } else if (kind == 5) {
            law.add("[");
            truth(law, nested + 1, says);
            law.add("]");
        } else {
            sum(law, nested, says);
            law.add(new String[] {"=", "<", ">"}[draw(3)]);
            sum(law, nested, says);
        }
    }

    // ---- changes

    private void remember(Model before) {
        past.add(before);
        if (past.size() > 10) {
            past.remove(0);
        }
    }

    private void change() {
        Model before = model.copy();
        int c = draw(12) - 1;
        int p = draw(12) - 1;
        switch (draw(9)) {
            case 0:
                deed("12: give", x.give(c, p), model.give(c, p), c, before);
                break;
            case 1:
                deed("13: take", x.take(c, p), model.take(c, p), c, before);
                break;
            case 2:
                int place = draw(6) - 1;
                deed("14: swap", x.swap(c, place), model.swap(c, place), c, before);
                break;
            case 3:
                define(before);
                break;
            case 4:
                int n = draw(12) - 1;
                int moodWhy = model.setMood(n);
                due("16: mood", x.mood(n), moodWhy != 0 ? -10 - moodWhy : before.mood);
                if (moodWhy == 0) {
                    remember(before);
                }
                break;
            case 5:
                undo();
                break;
            case 6:
                perform(before);
                break;
            case 7:
                day(before);
                break;
            default:
                imageOrRestore();
                break;
        }
    }

    private void deed(String what, int got, int why, int c, Model before) {
        due(what, got, why != 0 ? -10 - why : model.state(c));
        if (why == 0) {
            remember(before);
        }
    }

    private void define(Model before) {
        int c = draw(12) - 1;
        int m = draw(10) - 1;
        int way = draw(5) - 1;
        int why = model.define(c, m, way);
        due("15: define", x.define(c, m, way), why != 0 ? -10 - why : before.ways[c][m]);
        if (why == 0) {
            remember(before);
        }
    }

    private void undo() {
        int n = draw(5);
        if (n < 1 || n > past.size()) {
            due("17: undo", x.undo(n), -3);
            return;
        }
        for (int i = 0; i < n; i++) {
            model = past.remove(past.size() - 1);
        }
        due("17: undo", x.undo(n), past.size());
    }

    private long someDeed() {
        int[] base = {10, 100, 200, 300, 1000, 0};
        int[] range = {10, 100, 100, 100, 300, 1400};
        int kind = draw(11) == 0 ? 5 : draw(5);
        int classes = Math.max(1, model.classes());
        if (kind >= 1 && kind <= 3 && draw(4) > 0) {
            return base[kind] + 10 * draw(classes) + draw(kind == 3 ? 2 : classes);
        }
        return base[kind] + draw(range[kind]);
    }

    private void perform(Model before) {
        long[] deeds = new long[draw(7)];
        for (int i = 0; i < deeds.length; i++) {
            deeds[i] = someDeed();
        }
        Check.fill(x, 1, 1 + draw(3), deeds);
        int done = 0;
        int why = 0;
        while (done < deeds.length && why == 0) {
            why = model.deed(deeds[done]);
            done += why == 0 ? 1 : 0;
        }
        due("18: judge 0", x.judge(1, 0), done == deeds.length ? -1 : done);
        due("18: judge 1", x.judge(1, 1), why);
        due("18: judge 2", x.judge(1, 2), model.bits(0));
        due("18: judge 3", x.judge(1, 3), model.links());
        due("18: judge does nothing", x.count(4), before.bits(0));
        due("19: perform", x.perform(1), done);
        if (done > 0) {
            remember(before);
        }
    }

    private void day(Model before) {
        int seed = random.nextInt();
        int times = 1 + draw(40);
        int state = seed;
        int done = 0;
        for (int i = 0; i < times; i++) {
            state = 1103515245 * state + 12345;
            int kind = (state >>> 16) % 6;
            state = 1103515245 * state + 12345;
            int v = state >>> 16;
            long deed = kind == 0 ? 10 + v % 10 : kind <= 2 ? 100 + v % 100 : kind == 3 ? 200 + v % 100
                : kind == 4 ? 300 + v % 100 : 1000 + v % 300;
            done += model.deed(deed) == 0 ? 1 : 0;
        }
        due("20: day", x.day(seed, times), done);
        if (done > 0) {
            remember(before);
        }
    }

    private void imageOrRestore() {
        int i = draw(2);
        if (draw(2) == 0) {
            due("47: image", x.image(i), 0);
            images[i] = model.copy();
            imageLines[i] = lines;
        } else if (images[i] == null) {
            due("48: restore", x.restore(i), -5);
        } else {
            due("48: restore", x.restore(i), 0);
            model = images[i].copy();
            lines = imageLines[i];
            past.clear();
        }
    }

    // ---- questions

    private void askAll() {
        askOrders();
        askDemands();
        askOldOrders();
        askCalls();
        askWould();
        askRepairs();
        askTold();
        askChances();
    }

    private static int at(List<Integer> row, int i) {
        return row != null && i < row.size() ? row.get(i) : -1;
    }

    private void askOrders() {
        due("49: 0", x.count(0), model.classes());
        due("49: 1", x.count(1), model.links());
        int definitions = 0;
        for (int c = 0; c < 10; c++) {
            for (int m = 0; m < 8; m++) {
                definitions += model.ways[c][m] != 0 ? 1 : 0;
                due("6: defines", x.defines(c, m), model.isClass(c) ? model.ways[c][m] : -2);
            }
        }
        due("49: 2", x.count(2), definitions);
        due("49: 3", x.count(3), model.mood);
        due("49: 4", x.count(4), model.bits(0));
        due("49: 5", x.count(5), model.bits(1));
        due("49: 6", x.count(6), past.size());
        due("49: 7", x.count(7), 0);
        due("49: 8", x.count(8), lines);
        for (int c = -1; c <= 10; c++) {
            boolean is = model.isClass(c);
            due("7: state", x.state(c), is ? model.state(c) : -2);
            List<Integer> order = is ? model.order(c) : null;
            for (int i = 0; i <= 10; i++) {
                due("5: parent", x.parent(c, i), is ? at(model.parents.get(c), i) : -2);
                due("8: order", x.order(c, i), is ? at(order, i) : -2);
            }
            int below = 0;
            for (int d = 0; d <= 10; d++) {
                boolean both = is && model.isClass(d);
                due("9: place", x.place(c, d), !both ? -2 : order == null ? -1 : order.indexOf(d));
                below |= both && (model.above(d) >> c & 1) != 0 ? 1 << d : 0;
                due("34: common", x.common(c, d), common(c, d));
            }
            due("10: above", x.above(c), is ? model.above(c) : -2);
            due("11: below", x.below(c), is ? below : -2);
        }
    }

    private int common(int a, int b) {
        if (!model.isClass(a) || !model.isClass(b)) {
            return -2;
        }
        List<Integer> first = model.order(a);
        List<Integer> second = model.order(b);
        if (first == null || second == null) {
            return -5;
        }
        return first.stream().filter(second::contains).findFirst().orElse(-1);
    }

    private void askDemands() {
        for (int c = 0; c < model.classes(); c++) {
            if (model.state(c) == 2) {
                due("21: demands", x.demands(c), -1);
                due("24: ways", x.ways(c), -1);
                continue;
            }
            TreeSet<Integer> pairs = model.demands(c);
            due("21: demands", x.demands(c), pairs.size());
            int i = 0;
            for (int pair : pairs) {
                due("22: demand", x.demand(c, i++), pair);
            }
            due("22: demand", x.demand(c, i), -1);
            List<Integer> ring = model.ring(pairs);
            for (int j = 0; j <= ring.size(); j++) {
                due("23: ring", x.ring(c, j), at(ring, j));
            }
            List<List<Integer>> rows = new ArrayList<>();
            model.rows(pairs, model.above(c), new ArrayList<>(), rows);
            due("24: ways", x.ways(c), rows.size());
            due("25: rank", x.rank(c), model.state(c) == 0 ? rows.indexOf(model.order(c)) : -1);
        }
    }

    private void askOldOrders() {
        for (int kind = 1; kind <= 3; kind++) {
            int same = 0;
            for (int c = 0; c < model.classes(); c++) {
                List<Integer> old = model.old(c, kind);
                for (int i = 0; i <= 10; i++) {
                    due("26: old", x.old(c, kind, i), at(old, i));
                }
                same |= old.equals(model.order(c)) ? 1 << c : 0;
                long broken = -1;
                if (model.state(c) != 2) {
                    broken = model.demands(c).stream().filter(p -> old.indexOf(p / 10) > old.indexOf(p % 10)).count();
                }
                due("27: breaks", x.breaks(c, kind), broken);
            }
            due("28: same", x.same(kind), same);
        }
    }

    private void askCalls() {
        TreeSet<Integer> dead = model.dead();
        due("32: dead", x.dead(), dead.size());
        due("33: firstDead", x.firstDead(), dead.isEmpty() ? -1 : dead.first());
        for (int m = 0; m < 8; m++) {
            int[] serves = new int[10];
            for (int c = 0; c < model.classes(); c++) {
                if (model.order(c) == null) {
                    due("29: call", x.call(c, m), -99000005);
                    due("30: through", x.through(c, m, 0), -5);
                    continue;
                }
                Integer said = model.call(c, m, model.mood);
                due("29: call", x.call(c, m), said == null ? -99000001 : said);
                List<Integer> row = model.through(c, m, model.mood);
                for (int i = 0; i <= row.size(); i++) {
                    due("30: through", x.through(c, m, i), at(row, i));
                }
                if (!row.isEmpty()) {
                    serves[row.get(0)] |= 1 << c;
                }
            }
            for (int c = 0; c < 10; c++) {
                due("31: serves", x.serves(c, m), model.isClass(c) ? serves[c] : -2);
            }
        }
    }

    private void askWould() {
        for (int times = 0; times < 8; times++) {
            List<Integer> kin = new ArrayList<>();
            for (int i = draw(5); i > 0; i--) {
                int p = draw(model.classes());
                if (!kin.contains(p)) {
                    kin.add(p);
                }
            }
            Check.fill(x, 2, draw(4), kin.stream().mapToLong(p -> p).toArray());
            due("35: would", x.would(2), model.stateBy(kin));
            due("37: wouldWays", x.wouldWays(2), model.wouldWays(kin, new ArrayList<>()));
            List<Integer> order = model.merge(99, kin);
            for (int i = 1; i <= 11; i++) {
                due("36: wouldOrder", x.wouldOrder(2, i), at(order, i));
            }
        }
    }

    private void askRepairs() {
        List<Integer> links = model.repairs();
        due("38: repairs", x.repairs(), links == null ? -1 : links.size());
        for (int i = 0; i < 4; i++) {
            due("39: repair", x.repair(i), at(links, i));
        }
    }

    private void askTold() {
        List<Integer> ordered = new ArrayList<>();
        for (int c = 0; c < model.classes(); c++) {
            if (model.order(c) != null) {
                ordered.add(c);
            }
        }
        for (int times = 0; times < 4; times++) {
            long[] told = new long[1 + draw(1 + draw(4))];
            int by = draw(10);
            for (int i = 0; i < told.length; i++) {
                int c = ordered.get(draw(ordered.size()));
                int m = draw(8);
                Integer said = null;
                for (int tries = 0; tries < 20 && said == null; tries++) {
                    c = ordered.get(draw(ordered.size()));
                    m = draw(8);
                    said = model.call(c, m, by);
                }
                boolean tellable = said != null && said >= -50000 && said < 50000;
                told[i] = 10000000L * c + 100000L * m + 50000 + (tellable ? said : draw(9));
            }
            Check.fill(x, 3, 2, told);
            int bits = model.moods(told);
            due("40: moods", x.moods(3), bits);
            due("41: attempt", x.attempt(3), model.attempt(bits));
        }
    }

    private void askChances() {
        int n = draw(7) == 0 ? 3 : draw(3);
        int[] sums = model.chances(n);
        int draws = n == 0 ? 1 : n == 1 ? 10 : n == 2 ? 100 : 1000;
        lowest("42: chance", x.chance(n, 0), x.chance(n, 1), sums[0], draws);
        lowest("43: mean", x.mean(n, 0), x.mean(n, 1), sums[1], draws);
    }

    private static void lowest(String what, int over, int under, int wantOver, int wantUnder) {
        due(what, (long) over * wantUnder, (long) wantOver * under);
        for (int by = 2; by <= 1000; by++) {
            if (over % by == 0 && under % by == 0) {
                due(what + " in lowest terms", by, 1);
            }
        }
        due(what + " below", under > 0 && under <= wantUnder ? 1 : 0, 1);
    }
}
