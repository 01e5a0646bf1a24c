import java.util.ArrayList;
import java.util.List;
import java.util.function.ToLongFunction;

/**
 * All promises that only ask: the answer hangs on what was done, not on what was asked before it. Each
 * question is asked as the first one of an object, behind all others, and with a deed between.
 */
public final class AloneTest {
    private static final Check CHECK = new Check();
    private static final List<String> NAMES = new ArrayList<>();
    private static final List<ToLongFunction<OrderMerge>> QUESTIONS = new ArrayList<>();

    public static void main(String[] args) {
        looks();
        demands();
        calls();
        others();
        for (int q = 0; q < QUESTIONS.size(); q++) {
            behindAllOthers(q);
            behindADeed(q);
        }
        CHECK.end();
    }

    private static void ask(String name, ToLongFunction<OrderMerge> question) {
        NAMES.add(name);
        QUESTIONS.add(question);
    }

    private static void looks() {
        for (int c = 0; c < 9; c += 2) {
            int one = c;
            ask("state " + c, x -> x.state(one));
            ask("order " + c, x -> x.order(one, 1));
            ask("place " + c, x -> x.place(one, 0));
            ask("above " + c, x -> x.above(one));
            ask("below " + c, x -> x.below(one));
            ask("parent " + c, x -> x.parent(one, 1));
            ask("common " + c, x -> x.common(7, one));
        }
    }

    private static void demands() {
        for (int c = 3; c < 9; c++) {
            int one = c;
            ask("demands " + c, x -> x.demands(one));
            ask("demand " + c, x -> x.demand(one, 2));
            ask("ring " + c, x -> x.ring(one, 1));
            ask("ways " + c, x -> x.ways(one));
            ask("rank " + c, x -> x.rank(one));
            for (int kind = 1; kind <= 3; kind++) {
                int by = kind;
                ask("old " + c + " " + kind, x -> x.old(one, by, 2));
                ask("breaks " + c + " " + kind, x -> x.breaks(one, by));
            }
        }
        for (int kind = 1; kind <= 3; kind++) {
            int by = kind;
            ask("same " + kind, x -> x.same(by));
        }
    }

    private static void calls() {
        for (int c = 1; c < 9; c += 2) {
            for (int m = 0; m < 8; m += 7) {
                int one = c;
                int method = m;
                ask("call " + c + " " + m, x -> x.call(one, method));
                ask("through " + c + " " + m, x -> x.through(one, method, 0));
                ask("serves " + c + " " + m, x -> x.serves(one, method));
            }
        }
        ask("dead", OrderMerge::dead);
        ask("firstDead", OrderMerge::firstDead);
    }

    private static void others() {
        for (int what = 0; what < 4; what++) {
            int one = what;
            ask("judge " + what, x -> x.judge(1, one));
        }
        ask("would", x -> x.would(3));
        ask("wouldOrder", x -> x.wouldOrder(3, 2));
        ask("wouldWays", x -> x.wouldWays(3));
        ask("repairs", OrderMerge::repairs);
        ask("repair 0", x -> x.repair(0));
        ask("repair 1", x -> x.repair(1));
        ask("moods", x -> x.moods(2));
        ask("attempt", x -> x.attempt(2));
        for (int n = 0; n <= 3; n++) {
            int lots = n;
            ask("chance " + n, x -> 10000L * x.chance(lots, 0) + x.chance(lots, 1));
            ask("mean " + n, x -> 10000L * x.mean(lots, 0) + x.mean(lots, 1));
        }
        for (int what = 0; what <= 8; what++) {
            int one = what;
            ask("count " + what, x -> x.count(one));
        }
    }

    private static void behindAllOthers(int q) {
        long first = QUESTIONS.get(q).applyAsLong(Twins.rich());
        OrderMerge x = Twins.rich();
        for (int i = 1; i < QUESTIONS.size(); i++) {
            QUESTIONS.get((q + i) % QUESTIONS.size()).applyAsLong(x);
        }
        CHECK.due(NAMES.get(q) + " behind all others", QUESTIONS.get(q).applyAsLong(x), first);
        CHECK.due(NAMES.get(q) + " again", QUESTIONS.get(q).applyAsLong(x), first);
    }

    /** What was found out ahead of a deed must not be answered behind it. */
    private static void behindADeed(int q) {
        for (int deed = 0; deed < 8; deed++) {
            OrderMerge fresh = Twins.rich();
            OrderMerge asked = Twins.rich();
            QUESTIONS.get(q).applyAsLong(asked);
            change(fresh, deed);
            change(asked, deed);
            CHECK.due(NAMES.get(q) + " behind deed " + deed, QUESTIONS.get(q).applyAsLong(asked),
                QUESTIONS.get(q).applyAsLong(fresh));
        }
    }

    private static void change(OrderMerge x, int deed) {
        switch (deed) {
            case 0:
                x.give(6, 5);
                break;
            case 1:
                x.take(4, 3);
                break;
            case 2:
                x.swap(2, 0);
                break;
            case 3:
                x.define(1, 7, 0);
                break;
            case 4:
                x.mood(9);
                break;
            case 5:
                x.undo(10);
                break;
            case 6:
                x.restore(0);
                break;
            default:
                x.house(40);
                break;
        }
    }
}
