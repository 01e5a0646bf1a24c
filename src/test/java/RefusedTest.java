import java.util.function.ToLongFunction;

/**
 * "Refused calls answer by a code and change nothing": each code of each promise, on an object that
 * has all there is to spoil; of several codes that which the call tells first, all ahead of NONE.
 * The calls that only ask go through the same test: they change nothing either.
 */
public final class RefusedTest {
    private static final int LEAST = Integer.MIN_VALUE;
    private static final int MOST = Integer.MAX_VALUE;
    /** Numbers that are no class of the recipe's house, nor one of anything else. */
    private static final int[] NO_CLASS = {-1, 9, 10, LEAST, MOST};
    private static final int[] NO_METHOD = {-1, 8, 10, LEAST, MOST};
    private static final int[] NO_TRAY = {-1, 4, LEAST, MOST};
    private static final int[] BELOW_ZERO = {-1, LEAST};
    private static final int REFUSED = 4;
    private static final int LOST = 5;
    private static final int FULL = 8;

    private static final Check CHECK = new Check();
    private static final Twins TWINS = new Twins(CHECK, Twins::rich);

    public static void main(String[] args) {
        theRecipe();
        tapes();
        looks();
        gives();
        takes();
        swaps();
        definesAndMoods();
        undoes();
        deeds();
        demands();
        oldOrders();
        calls();
        others();
        wouldBe();
        toldOnes();
        chances();
        trays();
        images();
        CHECK.end();
    }

    private static void refused(String what, long code, ToLongFunction<OrderMerge> call) {
        TWINS.refused(what, code, call);
    }

    private static void asks(String what, long due, ToLongFunction<OrderMerge> call) {
        TWINS.asks(what, due, call);
    }

    private static void theRecipe() {
        int[] counts = {9, 17, 7, 2, 0b011001111, 0b100010000, 10, 40, 19};
        for (int what = 0; what < counts.length; what++) {
            CHECK.due("the recipe's count(" + what + ")", Twins.rich().count(what), counts[what]);
        }
        CHECK.due("the recipe's fault", Twins.rich().fault(0), 3);
        CHECK.due("the recipe's lost class", Twins.rich().state(LOST), 2);
        CHECK.due("the recipe's class with four parents", Twins.rich().parent(FULL, 3), 2);
    }

    private static OrderMerge withFullTape() {
        OrderMerge x = Twins.rich();
        while (x.count(7) < 900) {
            x.feed(0x20202020, 0x20202020, 0x20202020, 0x20202020, 0x20202020);
        }
        return x;
    }

    private static void tapes() {
        new Twins(CHECK, RefusedTest::withFullTape).refused("2: it would have more than 900", -5,
            x -> x.feed(0x3f3f3f3f, 0x3f3f3f3f, 0x3f3f3f3f, 0x3f3f3f3f, 0x3f3f3f3f));
        for (int n : new int[] {-1, LEAST, 41, 900, 901, MOST}) {
            refused("3: house(" + n + ") of 40 bytes", -3, x -> x.house(n));
        }
        asks("4: fault(0)", 3, x -> x.fault(0));
        asks("4: fault(1)", 11, x -> x.fault(1));
        for (int what : new int[] {-1, 2, LEAST, MOST}) {
            asks("4: fault(" + what + ")", -1, x -> x.fault(what));
        }
    }

    private static void looks() {
        for (int c : NO_CLASS) {
            refused("5: no class " + c, -2, x -> x.parent(c, 0));
            refused("5: no class " + c + " ahead of the place", -2, x -> x.parent(c, -1));
            refused("6: no class " + c, -2, x -> x.defines(c, 0));
            refused("7: no class " + c, -2, x -> x.state(c));
            refused("8: no class " + c, -2, x -> x.order(c, 0));
            refused("8: no class " + c + " ahead of the place", -2, x -> x.order(c, -1));
            refused("9: no class " + c, -2, x -> x.place(c, 0));
            refused("9: no class " + c + " to look for", -2, x -> x.place(0, c));
            refused("9: no class " + c + " ahead of there being no order", -2, x -> x.place(REFUSED, c));
            refused("10: no class " + c, -2, x -> x.above(c));
            refused("11: no class " + c, -2, x -> x.below(c));
        }
        for (int m : NO_METHOD) {
            refused("6: no method " + m, -2, x -> x.defines(0, m));
        }
        for (int place : BELOW_ZERO) {
            refused("5: place " + place, -3, x -> x.parent(FULL, place));
            refused("5: place " + place + " ahead of there being none", -3, x -> x.parent(0, place));
            refused("8: place " + place, -3, x -> x.order(7, place));
            refused("8: place " + place + " ahead of there being none", -3, x -> x.order(LOST, place));
        }
        asks("5: not so many", -1, x -> x.parent(FULL, 4));
        asks("8: not so many", -1, x -> x.order(7, 4));
        asks("8: it has none", -1, x -> x.order(REFUSED, 0));
        asks("9: it isn't there", -1, x -> x.place(7, 2));
        asks("9: there is none", -1, x -> x.place(LOST, LOST));
    }

    private static void gives() {
        for (int c : NO_CLASS) {
            refused("12: no class " + c, -11, x -> x.give(c, 0));
            refused("12: no class " + c + " to be given", -11, x -> x.give(6, c));
            refused("12: no class " + c + " to a class with four", -11, x -> x.give(FULL, c));
        }
        refused("12: not of a lesser number: itself", -11, x -> x.give(6, 6));
        refused("12: not of a lesser number: the next", -11, x -> x.give(6, 7));
        refused("12: not of a lesser number: the first of all", -11, x -> x.give(0, 0));
        refused("12: not of a lesser number, ahead of there being 4", -11, x -> x.give(FULL, FULL));
        refused("12: it is a parent already", -12, x -> x.give(6, 1));
        refused("12: the last parent already", -12, x -> x.give(7, 0));
        refused("12: there are 4", -12, x -> x.give(FULL, 3));
        refused("12: a parent already, and there are 4", -12, x -> x.give(FULL, 7));
    }

    private static void takes() {
        for (int c : NO_CLASS) {
            refused("13: no class " + c, -11, x -> x.take(c, 0));
            refused("13: no class " + c + " to be taken", -11, x -> x.take(7, c));
        }
        refused("13: no parent of it", -12, x -> x.take(7, 2));
        refused("13: of a greater number", -12, x -> x.take(7, 8));
        refused("13: itself", -12, x -> x.take(7, 7));
        refused("13: without parents", -12, x -> x.take(0, 0));
        refused("13: a parent's parent", -12, x -> x.take(LOST, 2));
    }

    private static void swaps() {
        for (int c : NO_CLASS) {
            refused("14: no class " + c, -11, x -> x.swap(c, 0));
            refused("14: no class " + c + " ahead of the place", -11, x -> x.swap(c, -1));
        }
        for (int place : new int[] {-1, 3, 4, LEAST, MOST}) {
            refused("14: no two from place " + place + " of four", -12, x -> x.swap(FULL, place));
        }
        refused("14: no two from place 2 of three", -12, x -> x.swap(7, 2));
        refused("14: one parent", -12, x -> x.swap(6, 0));
        refused("14: no parent", -12, x -> x.swap(0, 0));
    }

    private static void definesAndMoods() {
        for (int way = 0; way <= 2; way++) {
            int by = way;
            for (int c : NO_CLASS) {
                refused("15: no class " + c + ", way " + way, -11, x -> x.define(c, 0, by));
            }
            for (int m : NO_METHOD) {
                refused("15: no method " + m + ", way " + way, -11, x -> x.define(0, m, by));
            }
        }
        for (int way : new int[] {-1, 3, LEAST, MOST}) {
            refused("15: no way " + way, -11, x -> x.define(0, 0, way));
            refused("15: no way " + way + " where it isn't defined", -11, x -> x.define(3, 3, way));
        }
        refused("15: it is defined there not at all", -12, x -> x.define(3, 3, 2));
        refused("15: it was undefined", -12, x -> x.define(1, 1, 2));
        for (int n : new int[] {-1, 10, LEAST, MOST}) {
            refused("16: no mood " + n, -11, x -> x.mood(n));
        }
    }

    private static OrderMerge withThreeToUndo() {
        OrderMerge x = Twins.rich();
        x.undo(7);
        return x;
    }

    private static OrderMerge withNoneToUndo() {
        OrderMerge x = Twins.rich();
        x.undo(10);
        return x;
    }

    private static void undoes() {
        for (int n : new int[] {0, -1, 11, LEAST, MOST}) {
            refused("17: undo(" + n + ")", -3, x -> x.undo(n));
        }
        new Twins(CHECK, RefusedTest::withThreeToUndo).refused("17: more than can be: 4 of 3", -3, x -> x.undo(4));
        new Twins(CHECK, RefusedTest::withThreeToUndo).refused("17: more than can be: 10 of 3", -3, x -> x.undo(10));
        new Twins(CHECK, RefusedTest::withNoneToUndo).refused("17: more than can be: 1 of 0", -3, x -> x.undo(1));
    }

    private static void deeds() {
        for (int tray : NO_TRAY) {
            refused("18: no tray " + tray, -2, x -> x.judge(tray, 0));
            refused("19: no tray " + tray, -2, x -> x.perform(tray));
        }
        for (int what : new int[] {-1, 4, LEAST, MOST}) {
            refused("18: no what " + what, -2, x -> x.judge(1, what));
            refused("18: no what " + what + " ahead of a missing tray", -2, x -> x.judge(0, what));
        }
        for (int what = 0; what < 4; what++) {
            int one = what;
            refused("18: missing, what " + what, -6, x -> x.judge(0, one));
        }
        refused("19: missing", -6, x -> x.perform(0));
        // The recipe's deeds once more: the mood can be, 0 is a parent of 4 already.
        int[] judged = {1, 2, 0b011001111, 17};
        for (int what = 0; what < 4; what++) {
            int one = what;
            asks("18: judged as if done, what " + what, judged[what], x -> x.judge(1, one));
        }
        asks("19: none can be", 0, x -> x.perform(2));
        for (int times : new int[] {0, -1, 41, LEAST, MOST}) {
            refused("20: so many times: " + times, -3, x -> x.day(5, times));
        }
    }

    private static void demands() {
        for (int c : NO_CLASS) {
            refused("21: no class " + c, -2, x -> x.demands(c));
            refused("22: no class " + c, -2, x -> x.demand(c, 0));
            refused("22: no class " + c + " ahead of i", -2, x -> x.demand(c, -1));
            refused("23: no class " + c, -2, x -> x.ring(c, 0));
            refused("23: no class " + c + " ahead of i", -2, x -> x.ring(c, -1));
            refused("24: no class " + c, -2, x -> x.ways(c));
            refused("25: no class " + c, -2, x -> x.rank(c));
        }
        for (int i : BELOW_ZERO) {
            refused("22: i is " + i, -3, x -> x.demand(7, i));
            refused("22: i is " + i + " of a lost one", -3, x -> x.demand(LOST, i));
            refused("23: i is " + i, -3, x -> x.ring(REFUSED, i));
            refused("23: i is " + i + " where there is none", -3, x -> x.ring(7, i));
            refused("23: i is " + i + " of a lost one", -3, x -> x.ring(LOST, i));
        }
        asks("21: it is lost", -1, x -> x.demands(LOST));
        asks("22: it is lost", -1, x -> x.demand(LOST, 0));
        asks("22: not so many", -1, x -> x.demand(6, 1));
        asks("23: it is lost", -1, x -> x.ring(LOST, 0));
        asks("23: there is none", -1, x -> x.ring(7, 0));
        asks("23: a ring", 1, x -> x.ring(REFUSED, 1));
        asks("23: not so many", -1, x -> x.ring(REFUSED, 2));
        asks("24: it is lost", -1, x -> x.ways(LOST));
        asks("24: refused", 0, x -> x.ways(REFUSED));
        asks("25: lost", -1, x -> x.rank(LOST));
        asks("25: refused", -1, x -> x.rank(REFUSED));
        asks("25: a rank", 0, x -> x.rank(7));
    }

    private static void oldOrders() {
        for (int kind : new int[] {0, 4, -1, LEAST, MOST}) {
            refused("26: no kind " + kind, -2, x -> x.old(0, kind, 0));
            refused("26: no kind " + kind + " ahead of the place", -2, x -> x.old(0, kind, -1));
            refused("27: no kind " + kind, -2, x -> x.breaks(0, kind));
            refused("27: no kind " + kind + " ahead of being lost", -2, x -> x.breaks(LOST, kind));
            refused("28: no kind " + kind, -2, x -> x.same(kind));
        }
        for (int kind = 1; kind <= 3; kind++) {
            int by = kind;
            for (int c : NO_CLASS) {
                refused("26: no class " + c, -2, x -> x.old(c, by, 0));
                refused("26: no class " + c + " ahead of the place", -2, x -> x.old(c, by, -1));
                refused("27: no class " + c, -2, x -> x.breaks(c, by));
            }
            for (int place : BELOW_ZERO) {
                refused("26: place " + place, -3, x -> x.old(7, by, place));
                refused("26: place " + place + " of a lost one", -3, x -> x.old(LOST, by, place));
            }
            asks("26: not so many", -1, x -> x.old(7, by, 4));
            asks("27: it is lost", -1, x -> x.breaks(LOST, by));
            asks("28: same", 0b011001111, x -> x.same(by));
        }
    }

    private static void calls() {
        for (int c : NO_CLASS) {
            refused("29: no class " + c, -99000002, x -> x.call(c, 0));
            refused("30: no class " + c, -2, x -> x.through(c, 0, 0));
            refused("30: no class " + c + " ahead of i", -2, x -> x.through(c, 0, -1));
            refused("31: no class " + c, -2, x -> x.serves(c, 0));
        }
        for (int m : NO_METHOD) {
            refused("29: no method " + m, -99000002, x -> x.call(0, m));
            refused("29: no method " + m + " ahead of no order", -99000002, x -> x.call(LOST, m));
            refused("30: no method " + m, -2, x -> x.through(0, m, 0));
            refused("30: no method " + m + " ahead of i", -2, x -> x.through(0, m, -1));
            refused("30: no method " + m + " ahead of no order", -2, x -> x.through(REFUSED, m, 0));
            refused("31: no method " + m, -2, x -> x.serves(0, m));
            refused("31: no method " + m + " of a lost one", -2, x -> x.serves(LOST, m));
        }
        refused("29: no order: refused", -99000005, x -> x.call(REFUSED, 0));
        refused("29: no order: lost", -99000005, x -> x.call(LOST, 0));
        refused("29: no order, ahead of going to none", -99000005, x -> x.call(REFUSED, 6));
        refused("30: no order: refused", -5, x -> x.through(REFUSED, 0, 0));
        refused("30: no order: lost", -5, x -> x.through(LOST, 0, 0));
        refused("30: no order, ahead of not so many", -5, x -> x.through(REFUSED, 6, MOST));
        for (int i : BELOW_ZERO) {
            refused("30: i is " + i, -3, x -> x.through(0, 0, i));
            refused("30: i is " + i + " ahead of no order", -3, x -> x.through(REFUSED, 0, i));
            refused("30: i is " + i + " ahead of not so many", -3, x -> x.through(0, 6, i));
        }
        asks("29: it goes to none", -99000001, x -> x.call(0, 6));
        asks("30: not so many", -1, x -> x.through(0, 6, 0));
        asks("31: of a lost one", 0, x -> x.serves(LOST, 3));
        asks("32: dead ones", 3, OrderMerge::dead);
        asks("33: the first dead one", 52, OrderMerge::firstDead);
    }

    private static void others() {
        for (int c : NO_CLASS) {
            refused("34: no class " + c, -2, x -> x.common(c, 0));
            refused("34: no class " + c + " as the second", -2, x -> x.common(0, c));
            refused("34: no class " + c + " ahead of no order", -2, x -> x.common(REFUSED, c));
            refused("34: no class " + c + " ahead of no order", -2, x -> x.common(c, LOST));
        }
        refused("34: the first is refused", -5, x -> x.common(REFUSED, 0));
        refused("34: the second is lost", -5, x -> x.common(0, LOST));
        refused("34: both, the same one", -5, x -> x.common(LOST, LOST));
        asks("34: there is none", -1, x -> x.common(0, 1));
        for (int i : BELOW_ZERO) {
            refused("39: i is " + i, -3, x -> x.repair(i));
        }
        asks("38: the fewest", 2, OrderMerge::repairs);
        asks("39: the first", 21, x -> x.repair(0));
        asks("39: the second", 80, x -> x.repair(1));
        asks("39: not so many", -1, x -> x.repair(2));
    }

    private static OrderMerge withFiveParents() {
        OrderMerge x = Twins.rich();
        Check.fill(x, 3, 2, 0, 1, 1, 99, -1);
        return x;
    }

    private static OrderMerge withParent(long parent) {
        OrderMerge x = Twins.rich();
        Check.fill(x, 3, 3, 6, parent);
        return x;
    }

    private static void wouldBe() {
        for (int tray : NO_TRAY) {
            refused("35: no tray " + tray, -2, x -> x.would(tray));
            refused("36: no tray " + tray, -2, x -> x.wouldOrder(tray, 1));
            refused("36: no tray " + tray + " ahead of the place", -2, x -> x.wouldOrder(tray, 0));
            refused("37: no tray " + tray, -2, x -> x.wouldWays(tray));
        }
        refused("35: missing", -6, x -> x.would(0));
        refused("36: missing", -6, x -> x.wouldOrder(0, 1));
        refused("36: missing, ahead of the place", -6, x -> x.wouldOrder(0, 0));
        refused("37: missing", -6, x -> x.wouldWays(0));
        Twins five = new Twins(CHECK, RefusedTest::withFiveParents);
        five.refused("35: more than 4 numbers, ahead of what they are", -4, x -> x.would(3));
        five.refused("36: more than 4 numbers", -4, x -> x.wouldOrder(3, 1));
        five.refused("36: more than 4 numbers, ahead of the place", -4, x -> x.wouldOrder(3, 0));
        five.refused("37: more than 4 numbers", -4, x -> x.wouldWays(3));
        for (long parent : new long[] {9, -1, 6, 10, 1L << 32, 1L << 32 | 2, Long.MIN_VALUE, Long.MAX_VALUE}) {
            Twins bad = new Twins(CHECK, () -> withParent(parent));
            bad.refused("35: with 6 and " + parent, -3, x -> x.would(3));
            bad.refused("36: with 6 and " + parent, -3, x -> x.wouldOrder(3, 1));
            bad.refused("37: with 6 and " + parent, -3, x -> x.wouldWays(3));
        }
        for (int place : new int[] {0, -1, LEAST}) {
            refused("36: place " + place, -3, x -> x.wouldOrder(3, place));
            new Twins(CHECK, () -> withParent(LOST)).refused("36: place " + place + " ahead of there being none", -3,
                x -> x.wouldOrder(3, place));
        }
        asks("35: it would have an order", 0, x -> x.would(3));
        asks("36: it would have an order", 1, x -> x.wouldOrder(3, 4));
        asks("36: not so many", -1, x -> x.wouldOrder(3, 5));
        asks("37: in both orders", 2, x -> x.wouldWays(3));
        new Twins(CHECK, () -> withParent(LOST)).asks("35: it would be lost", 2, x -> x.would(3));
        new Twins(CHECK, () -> withParent(LOST)).asks("36: there would be none", -1, x -> x.wouldOrder(3, 1));
    }

    private static OrderMerge withTold(int n, long number) {
        OrderMerge x = Twins.rich();
        x.numbers(2, 3, n);
        for (int i = 0; i < n; i++) {
            x.write(2, i, i == n - 1 ? number : 50000);
        }
        return x;
    }

    private static void toldOnes() {
        for (int tray : NO_TRAY) {
            refused("40: no tray " + tray, -2, x -> x.moods(tray));
            refused("41: no tray " + tray, -2, x -> x.attempt(tray));
        }
        refused("40: missing", -6, x -> x.moods(0));
        refused("41: missing", -6, x -> x.attempt(0));
        for (int n : new int[] {0, 9, 40}) {
            Twins many = new Twins(CHECK, () -> withTold(n, -1));
            many.refused("40: " + n + " numbers, ahead of what they are", -4, x -> x.moods(2));
            many.refused("41: " + n + " numbers, ahead of what they are", -4, x -> x.attempt(2));
        }
        long[] bad = {-1, 10000000L * REFUSED, 10000000L * LOST, 10000000L * 9, 800000, 9900000, Long.MIN_VALUE,
            Long.MAX_VALUE, -10000000, 10000000L << 32};
        for (long number : bad) {
            for (int n : new int[] {1, 8}) {
                Twins one = new Twins(CHECK, () -> withTold(n, number));
                one.refused("40: told " + number + " as the last of " + n, -3, x -> x.moods(2));
                one.refused("41: told " + number + " as the last of " + n, -3, x -> x.attempt(2));
            }
        }
        asks("40: told", 31, x -> x.moods(2));
        asks("41: which to try", 0, x -> x.attempt(2));
        new Twins(CHECK, () -> withTold(1, 50001)).asks("41: there are none", -1, x -> x.attempt(2));
    }

    private static void chances() {
        for (int what : new int[] {-1, 2, LEAST, MOST}) {
            refused("42: no what " + what, -2, x -> x.chance(0, what));
            refused("42: no what " + what + " ahead of n", -2, x -> x.chance(4, what));
            refused("43: no what " + what, -2, x -> x.mean(0, what));
            refused("43: no what " + what + " ahead of n", -2, x -> x.mean(-1, what));
        }
        for (int n : new int[] {-1, 4, LEAST, MOST}) {
            for (int what = 0; what < 2; what++) {
                int one = what;
                refused("42: " + n + " lots", -3, x -> x.chance(n, one));
                refused("43: " + n + " lots", -3, x -> x.mean(n, one));
            }
        }
        asks("42: nothing is swapped", 1, x -> x.chance(3, 1) > 0 ? 1 : 0);
        asks("43: nothing is swapped", 1, x -> x.mean(3, 1) > 0 ? 1 : 0);
    }

    private static void trays() {
        for (int tray : NO_TRAY) {
            refused("44: no tray " + tray, -2, x -> x.numbers(tray, 0, 0));
            refused("44: no tray " + tray + " ahead of n", -2, x -> x.numbers(tray, 0, 41));
            refused("45: no tray " + tray, -2, x -> x.write(tray, 0, 5));
            refused("45: no tray " + tray + " ahead of the number", -2, x -> x.write(tray, -1, 5));
            refused("46: no tray " + tray, -2, x -> x.lists(tray, 0));
        }
        for (int sort : new int[] {-1, 4, LEAST, MOST}) {
            refused("44: no sort " + sort, -2, x -> x.numbers(1, sort, 3));
            refused("44: no sort " + sort + " ahead of n", -2, x -> x.numbers(1, sort, -1));
        }
        for (int n : new int[] {-1, 41, LEAST, MOST}) {
            refused("44: " + n + " numbers, and the tray stays", -3, x -> x.numbers(1, 0, n));
            refused("44: " + n + " numbers, and the tray stays missing", -3, x -> x.numbers(0, 0, n));
        }
        refused("45: missing", -6, x -> x.write(0, 0, 5));
        refused("45: missing, ahead of the number", -6, x -> x.write(0, -1, 5));
        for (int i : new int[] {-1, 2, 40, LEAST, MOST}) {
            refused("45: it has no number " + i, -7, x -> x.write(3, i, 5));
        }
        for (int c : NO_CLASS) {
            refused("46: no class " + c, -2, x -> x.lists(1, c));
            refused("46: no class " + c + " ahead of a missing tray", -2, x -> x.lists(0, c));
        }
        refused("46: missing", -6, x -> x.lists(0, 0));
        refused("46: missing, ahead of no order", -6, x -> x.lists(0, REFUSED));
        refused("46: refused", -5, x -> x.lists(1, REFUSED));
        refused("46: lost", -5, x -> x.lists(1, LOST));
    }

    private static void images() {
        for (int i : new int[] {-1, 2, LEAST, MOST}) {
            refused("47: no image " + i, -2, x -> x.image(i));
            refused("48: no image " + i, -2, x -> x.restore(i));
        }
        refused("48: none was made", -5, x -> x.restore(1));
        for (int what : new int[] {-1, 9, LEAST, MOST}) {
            asks("49: no count " + what, -1, x -> x.count(what));
        }
        asks("49: a count", 9, x -> x.count(0));
    }
}
