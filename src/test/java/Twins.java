import java.util.ArrayList;
import java.util.List;
import java.util.function.Supplier;
import java.util.function.ToLongFunction;

/**
 * Two objects made by one recipe, one of which is asked a call that may change nothing: whatever
 * they are asked then, both must answer alike. No object gets more than 512 calls: each page of
 * questions has a pair of its own.
 */
final class Twins {
    /** Classes 0 to 8, so that 9 is none: 4 and 8 are refused, 5 is lost, the others have orders. */
    static final String HOUSE = "house mood 2;class;class;class 0 1;class 1 0;class 2 3;class 4;class 1;class 6 2 0;"
        + "class 0 7 1 2;method 0 in 0 ends;method 0 in 2 next;method 1 in 1 ends;method 1 in 6 next;method 7 in 7 next;"
        + "method 7 in 4 ends;method 3 in 5 next;says:if mood>4 then next*2+in else in*100+method*10+depth-for end;"
        + "seen:not method=1 or mood<8 and in<for+1;";
    static final int CLASSES = 9;
    /** The last page is that of fault(), which a text changes even if all else stays. */
    static final int PAGES = 9;
    static final int FAULT_PAGE = PAGES - 1;

    private final Check check;
    private final Supplier<OrderMerge> recipe;

    Twins(Check check, Supplier<OrderMerge> recipe) {
        this.check = check;
        this.recipe = recipe;
    }

    /**
     * All that a refused call could spoil is there: ten calls to be undone, one image (0) of another
     * house, a fault, bytes on the tape, trays 1 to 3 of three sorts. Missing: tray 0, image 1.
     */
    static OrderMerge rich() {
        OrderMerge x = new OrderMerge();
        Check.tell(x, "house mood 6;class;class 0;class 0 1;method 4 in 1 ends;says:7;");
        x.image(0);
        Check.tell(x, HOUSE);
        Check.tell(x, "house mood 77;");
        Check.feed(x, "house mood 8;class;class 0;");
        Check.fill(x, 1, 1, 15, 140, 272, 380, 1025, 1274, 170, 9);
        Check.fill(x, 2, 3, 50000, 10000000L * 2 + 50000 + 198);
        Check.fill(x, 3, 0, 6, 2);
        x.mood(3);
        x.mood(4);
        x.give(5, 0);
        x.take(7, 0);
        x.swap(3, 0);
        x.swap(3, 0);
        x.give(7, 1);
        x.define(8, 5, 1);
        x.define(1, 1, 2);
        x.define(0, 0, 1);
        x.perform(1);
        x.mood(2);
        return x;
    }

    /** A call that the document refuses: its code, and nothing is changed. */
    void refused(String what, long code, ToLongFunction<OrderMerge> call) {
        asks(what, code, call);
    }

    /** A call that only asks: its answer, and nothing is changed. */
    void asks(String what, long due, ToLongFunction<OrderMerge> call) {
        for (int page = 0; page < PAGES; page++) {
            OrderMerge asked = recipe.get();
            OrderMerge other = recipe.get();
            check.due(what, call.applyAsLong(asked), due);
            List<Long> mine = page(asked, page);
            List<Long> its = page(other, page);
            int i = 0;
            while (i < mine.size() && i < its.size() && mine.get(i).equals(its.get(i))) {
                i++;
            }
            boolean alike = i == mine.size() && i == its.size();
            check.due(what + " changes nothing (page " + page + ", answer " + i + ")", alike ? 0 : 1, 0);
        }
    }

    /** What a page of questions is answered; most pages end in calls that change the object. */
    static List<Long> page(OrderMerge x, int page) {
        List<Long> answers = new ArrayList<>();
        switch (page) {
            case 0:
                facts(x, answers);
                break;
            case 1:
                orders(x, answers);
                break;
            case 2:
                demandsAndCalls(x, answers);
                break;
            case 3:
                others(x, answers);
                break;
            case 4:
                // Till nothing can be undone, whatever that was.
                for (int i = 0; i < 11; i++) {
                    add(answers, x.undo(1));
                    shortFacts(x, answers);
                }
                break;
            case 5:
                for (int i = 0; i < 2; i++) {
                    add(answers, x.restore(i));
                    shortFacts(x, answers);
                }
                facts(x, answers);
                break;
            case 6:
                add(answers, x.house(x.count(7)));
                facts(x, answers);
                break;
            case 7:
                traysAndDays(x, answers);
                break;
            default:
                add(answers, x.fault(0));
                add(answers, x.fault(1));
                break;
        }
        return answers;
    }

    private static void add(List<Long> answers, long v) {
        answers.add(v);
    }

    /** 180 calls. */
    private static void facts(OrderMerge x, List<Long> answers) {
        for (int what = 0; what <= 9; what++) {
            add(answers, x.count(what));
        }
        for (int c = 0; c <= CLASSES; c++) {
            add(answers, x.state(c));
            add(answers, x.above(c));
            add(answers, x.below(c));
            for (int i = 0; i < 4; i++) {
                add(answers, x.parent(c, i));
            }
            for (int m = 0; m < 8; m++) {
                add(answers, x.defines(c, m));
            }
            for (int m = 0; m < 8; m += 7) {
                add(answers, x.call(c, m));
            }
        }
    }

    /** 18 calls: enough to tell the recipe's deeds from one another. */
    private static void shortFacts(OrderMerge x, List<Long> answers) {
        for (int what = 1; what <= 6; what++) {
            add(answers, x.count(what));
        }
        for (int i = 0; i < 3; i++) {
            add(answers, x.parent(7, i));
        }
        add(answers, x.parent(3, 0));
        add(answers, x.parent(4, 2));
        add(answers, x.parent(5, 1));
        add(answers, x.parent(8, 0));
        add(answers, x.defines(8, 5));
        add(answers, x.defines(1, 1));
        add(answers, x.defines(0, 0));
        add(answers, x.defines(5, 2));
        add(answers, x.defines(4, 7));
    }

    private static void orders(OrderMerge x, List<Long> answers) {
        for (int c = 0; c < CLASSES; c++) {
            for (int i = 0; i < 8; i++) {
                add(answers, x.order(c, i));
                add(answers, x.place(c, i));
                add(answers, x.common(c, i));
            }
            for (int kind = 1; kind <= 3; kind++) {
                add(answers, x.breaks(c, kind));
                add(answers, x.old(c, kind, 2));
            }
        }
        for (int kind = 1; kind <= 3; kind++) {
            add(answers, x.same(kind));
        }
    }

    private static void demandsAndCalls(OrderMerge x, List<Long> answers) {
        for (int c = 0; c < CLASSES; c++) {
            add(answers, x.demands(c));
            add(answers, x.ways(c));
            add(answers, x.rank(c));
            for (int i = 0; i < 4; i++) {
                add(answers, x.demand(c, 3 * i));
                add(answers, x.ring(c, i));
            }
            for (int m = 0; m < 8; m++) {
                add(answers, x.call(c, m));
                add(answers, x.serves(c, m));
                add(answers, x.through(c, m, 1));
            }
        }
        add(answers, x.dead());
        add(answers, x.firstDead());
    }

    private static void others(OrderMerge x, List<Long> answers) {
        for (int tray = 0; tray < 4; tray++) {
            for (int what = 0; what < 4; what++) {
                add(answers, x.judge(tray, what));
            }
            add(answers, x.would(tray));
            add(answers, x.wouldWays(tray));
            for (int i = 1; i < 6; i++) {
                add(answers, x.wouldOrder(tray, i));
            }
            add(answers, x.moods(tray));
            add(answers, x.attempt(tray));
        }
        add(answers, x.repairs());
        for (int i = 0; i < 4; i++) {
            add(answers, x.repair(i));
        }
        for (int n = 0; n <= 3; n++) {
            for (int what = 0; what < 2; what++) {
                add(answers, x.chance(n, what));
                add(answers, x.mean(n, what));
            }
        }
        // How many numbers each tray has, and of which sort they are.
        for (int tray = 0; tray < 4; tray++) {
            for (int i = 0; i < 9; i++) {
                add(answers, x.write(tray, i, 0x123456789abcdefL));
            }
        }
    }

    private static void traysAndDays(OrderMerge x, List<Long> answers) {
        for (int tray = 0; tray < 4; tray++) {
            add(answers, x.perform(tray));
            shortFacts(x, answers);
        }
        add(answers, x.day(7, 40));
        facts(x, answers);
    }
}
