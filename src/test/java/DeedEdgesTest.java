import java.util.ArrayList;
import java.util.List;

/**
 * Promises 12 to 20 and what DEEDS are, sentence by sentence: each case that the document names.
 * What a deed of a tray does is held against the call that does the same.
 */
public final class DeedEdgesTest {
    private static final int LEAST = Integer.MIN_VALUE;
    private static final int MOST = Integer.MAX_VALUE;
    /** Eight classes: 7 has four parents, 6 three, 5 one. */
    private static final String HOUSE = "house mood 3;class;class;class;class;class;class 0;class 0 1 2;class 4 3 1 0;"
        + "method 0 in 0 ends;method 1 in 6 next;method 7 in 7 next;says:in+mood;";
    /** Ten classes, so that every class of a deed is one; 9 has four parents. */
    private static final String TEN = "house mood 3;class;class;class;class;class;class 0;class 0 1 2;class 4 3 1 0;class;"
        + "class 8 7 3 2;method 0 in 0 ends;method 1 in 6 next;method 7 in 9 next;says:in+mood;";
    private static final Check CHECK = new Check();

    public static void main(String[] args) {
        givenOnesAreTheLast();
        givenOnesBounds();
        takenOnes();
        swappedOnes();
        everyDefinition();
        everyMood();
        undoneInTurn();
        undoneAtOnce();
        tenAtMost();
        roundTheBuffer();
        whatCannotBeUndone();
        everyDeed();
        everyDeedDone();
        judgedTillOneCannotBe();
        fortyDeeds();
        performedAsAWhole();
        daysBounds();
        daysByLongArithmetic();
        CHECK.end();
    }

    private static void due(String what, long got, long want) {
        CHECK.due(what, got, want);
    }

    private static List<Long> facts(OrderMerge x) {
        List<Long> all = new ArrayList<>();
        for (int what : new int[] {0, 1, 2, 3, 4, 5, 8}) {
            all.add((long) x.count(what));
        }
        for (int c = 0; c < 10; c++) {
            for (int i = 0; i < 4; i++) {
                all.add((long) x.parent(c, i));
            }
            for (int m = 0; m < 8; m++) {
                all.add((long) x.defines(c, m));
            }
        }
        return all;
    }

    private static void sameFacts(String what, List<Long> got, List<Long> want) {
        due(what, got.equals(want) ? 1 : 0, 1);
    }

    /** "To GIVE a PARENT: it is the last PARENT then": the CLASS's state() then. */
    private static void givenOnesAreTheLast() {
        OrderMerge x = Check.told("house mood 0;class;class;class;class;class;class;");
        int[] row = {4, 0, 2, 1};
        for (int n = 0; n < 4; n++) {
            due("12: state then", x.give(5, row[n]), 0);
            for (int i = 0; i <= 4; i++) {
                due("12: parent(5, " + i + ")", x.parent(5, i), i <= n ? row[i] : -1);
            }
            due("12: links", x.count(1), n + 1);
            due("12: can be undone", x.count(6), n + 1);
        }
        due("12: there are 4", x.give(5, 3), -12);
        OrderMerge y = Check.told("house mood 0;class;class 0;class 0;class 2;class 1;");
        due("12: an heir behind its parent: refused then", y.give(2, 1), 1);
        due("12: its heir is lost", y.state(3), 2);
        due("12: lost then", y.give(3, 1), 2);
        due("12: an order then", y.give(4, 0), 0);
        due("12: lost by what is given", y.give(4, 3), 2);
    }

    /** "1 no such CLASS, .. a PARENT to be GIVEN that isn't of a lesser number. 2 .. already (there are 4)." */
    private static void givenOnesBounds() {
        for (int c = 0; c < 8; c++) {
            for (int p = -1; p <= 10; p++) {
                OrderMerge x = Check.told(HOUSE);
                boolean already = p >= 0 && (c == 5 && p == 0 || c == 6 && p < 3 || c == 7 && p < 5);
                int got = x.give(c, p);
                if (p < 0 || p >= c) {
                    due("12: not of a lesser number: give(" + c + ", " + p + ")", got, -11);
                } else if (already || c == 7) {
                    due("12: a parent already, or 4: give(" + c + ", " + p + ")", got, -12);
                } else {
                    due("12: give(" + c + ", " + p + ")", got >= 0 && got <= 2 ? 1 : 0, 1);
                }
                due("12: links", x.count(1), got >= 0 ? 9 : 8);
            }
        }
        OrderMerge x = Check.told(HOUSE);
        for (int c : new int[] {-1, 8, 9, 10, LEAST, MOST}) {
            due("12: no such class", x.give(c, 0), -11);
            due("12: no such class", x.give(c, c), -11);
            due("12: no such parent", x.give(6, c), -11);
        }
    }

    /** "To TAKE one": those behind it come up. */
    private static void takenOnes() {
        int[] row = {4, 3, 1, 0};
        for (int from = 0; from < 4; from++) {
            OrderMerge x = Check.told(HOUSE);
            due("13: state then", x.take(7, row[from]), 0);
            for (int i = 0; i < 4; i++) {
                due("13: parents then", x.parent(7, i), i == 3 ? -1 : row[i < from ? i : i + 1]);
            }
            due("13: it is none then", x.take(7, row[from]), -12);
            due("13: given again, it is the last", x.give(7, row[from]), 0);
            due("13: given again, it is the last", x.parent(7, 3), row[from]);
        }
        OrderMerge x = Check.told(HOUSE);
        due("13: the only one", x.take(5, 0), 0);
        due("13: none is left", x.parent(5, 0), -1);
        due("13: none is left", x.take(5, 0), -12);
        for (int c : new int[] {-1, 8, 9, 10, LEAST, MOST}) {
            due("13: no such class", x.take(c, 0), -11);
            due("13: no such class to be taken", x.take(7, c), -11);
        }
        for (int p : new int[] {2, 5, 6, 7}) {
            due("13: it is none", x.take(7, p), -12);
        }
        OrderMerge y = Check.told("house mood 0;class;class 0;class 0 1;class 2;class 2 3;");
        due("13: still lost", y.take(4, 3), 2);
        due("13: still lost", y.take(3, 2), 0);
        due("13: an order then", y.take(2, 1), 0);
        due("13: found again", y.state(4), 0);
        OrderMerge z = Check.told("house mood 0;class;class 0;class;class 0 2 1;");
        due("13: still refused", z.take(3, 2), 1);
    }

    /** "To SWAP two PARENTS next to one another (by the place of the first one)." */
    private static void swappedOnes() {
        int[] row = {4, 3, 1, 0};
        for (int from = 0; from < 3; from++) {
            OrderMerge x = Check.told(HOUSE);
            due("14: state then", x.swap(7, from), 0);
            for (int i = 0; i < 4; i++) {
                int due = i == from ? row[i + 1] : i == from + 1 ? row[i - 1] : row[i];
                due("14: parents then", x.parent(7, i), due);
            }
            due("14: swapped back", x.swap(7, from), 0);
            due("14: swapped back", x.parent(7, from), row[from]);
        }
        OrderMerge x = Check.told(HOUSE);
        int[] counts = {0, 0, 0, 0, 0, 1, 3, 4};
        for (int c = 0; c < 8; c++) {
            for (int place = counts[c] - 1; place <= 5; place++) {
                due("14: no two at " + place + " of " + c, x.swap(c, place), -12);
            }
            for (int place : new int[] {-1, -2, LEAST, MOST, MOST - 1}) {
                due("14: no two at " + place + " of " + c, x.swap(c, place), -12);
            }
        }
        for (int c : new int[] {-1, 8, 9, 10, LEAST, MOST}) {
            due("14: the class", x.swap(c, 0), -11);
            due("14: the class first", x.swap(c, -1), -11);
        }
        due("14: nothing was done", x.count(6), 0);
        OrderMerge y = Check.told("house mood 0;class;class 0;class 1 0;class 2 0 1;");
        due("14: refused then", y.swap(2, 0), 1);
        due("14: lost then", y.swap(3, 1), 2);
        due("14: an order then", y.swap(2, 0), 0);
    }

    /** "To DEFINE (way 0 ending, 1 going on; again, too), to UNDEFINE (2): what defines() was." */
    private static void everyDefinition() {
        OrderMerge x = Check.told("house mood 0;class;class;class;class;class;class;class;class;class;class;");
        for (int c = 0; c < 10; c++) {
            for (int m = 0; m < 8; m++) {
                due("15: it wasn't", x.define(c, m, (c + m) % 2), 0);
            }
        }
        due("49: all are", x.count(2), 80);
        for (int c = 0; c < 10; c++) {
            for (int m = 0; m < 8; m++) {
                due("6: as it was told", x.defines(c, m), 1 + (c + m) % 2);
            }
        }
        for (int was = 0; was <= 2; was++) {
            for (int way = 0; way <= 2; way++) {
                OrderMerge y = Check.told("house mood 0;class;" + (was == 0 ? "" : was == 1 ? "method 4 in 0 ends;"
                    : "method 4 in 0 next;"));
                boolean can = was != 0 || way != 2;
                due("15: from " + was + " by way " + way, y.define(0, 4, way), can ? was : -12);
                due("6: from " + was + " by way " + way, y.defines(0, 4), way == 2 ? 0 : way + 1);
                due("17: from " + was + " by way " + way, y.count(6), can ? 1 : 0);
                due("17: from " + was + " by way " + way, y.undo(1), can ? 0 : -3);
                due("6: undone", y.defines(0, 4), was);
            }
        }
    }

    /** "Another MOOD (0 to 9): what it was." */
    private static void everyMood() {
        OrderMerge x = Check.told(HOUSE);
        int was = 3;
        for (int n = 9; n >= 0; n--) {
            due("16: what it was", x.mood(n), was);
            due("49: what it is", x.count(3), n);
            due("29: what the law says by it", x.call(0, 0), n);
            was = n;
        }
        for (int n : new int[] {-1, 10, 19, LEAST, MOST}) {
            due("16: no such mood", x.mood(n), -11);
        }
        due("49: as it was", x.count(3), 0);
    }

    /** Twelve calls of every kind, each other than the one before. */
    private static void deed(OrderMerge x, int i) {
        switch (i % 12) {
            case 0:
                due("deed", x.mood(9 - i / 12), i < 12 ? 3 : 5);
                break;
            case 1:
                due("deed", x.give(5, 1), 0);
                break;
            case 2:
                due("deed", x.swap(7, 2), 0);
                break;
            case 3:
                due("deed", x.take(7, 4), 0);
                break;
            case 4:
                due("deed", x.define(2, 5, 1), 0);
                break;
            case 5:
                due("deed", x.define(2, 5, 0), 2);
                break;
            case 6:
                due("deed", x.define(2, 5, 2), 1);
                break;
            case 7:
                Check.fill(x, 1, 1, 174, 12, 1041, 999);
                due("deed", x.perform(1), 3);
                break;
            case 8:
                due("deed", x.day(i, 40) > 0 ? 1 : 0, 1);
                break;
            case 9:
                Check.fill(x, 1, 1, 18);
                due("deed", x.perform(1), 1);
                break;
            case 10:
                due("deed", x.define(0, 0, 0) >= 0 ? 1 : 0, 1);
                break;
            default:
                due("deed", x.mood(5), 8);
                break;
        }
    }

    /** "Calls that did some can be UNDONE each as a whole, the latest first": one by one. */
    private static void undoneInTurn() {
        for (int deeds = 1; deeds <= 12; deeds++) {
            OrderMerge x = Check.told(HOUSE);
            for (int i = 0; i < deeds; i++) {
                due("17: so many can be", x.count(6), Math.min(i, 10));
                deed(x, i);
            }
            OrderMerge y = Check.told(HOUSE);
            int kept = Math.min(deeds, 10);
            int undone = deeds <= 3 ? 1 : deeds / 2;
            for (int i = 0; i < deeds - Math.min(undone, kept); i++) {
                deed(y, i);
            }
            for (int i = 0; i < Math.min(undone, kept); i++) {
                due("17: how many still can be", x.undo(1), kept - 1 - i);
            }
            sameFacts("17: " + undone + " of " + deeds + " undone one by one", facts(x), facts(y));
        }
    }

    /** "n calls (1 to 10) are UNDONE: how many still can be." */
    private static void undoneAtOnce() {
        for (int n = 1; n <= 10; n++) {
            OrderMerge x = Check.told(HOUSE);
            OrderMerge y = Check.told(HOUSE);
            for (int i = 0; i < 12; i++) {
                deed(x, i);
                if (i < 12 - n) {
                    deed(y, i);
                }
            }
            due("17: undo(" + n + ")", x.undo(n), 10 - n);
            due("49: undo(" + n + ")", x.count(6), 10 - n);
            sameFacts("17: " + n + " at once", facts(x), facts(y));
            due("17: more than can be", x.undo(11 - n), -3);
            due("29: the law stays", x.call(0, 0), y.call(0, 0));
        }
    }

    /** "10 at most (eldest are forgotten)." */
    private static void tenAtMost() {
        for (int deeds = 9; deeds <= 12; deeds++) {
            OrderMerge x = Check.told(HOUSE);
            for (int i = 0; i < deeds; i++) {
                x.mood(i % 10);
            }
            due("49: ten at most", x.count(6), Math.min(deeds, 10));
            due("17: eleven", x.undo(11), -3);
            due("17: ten", x.undo(10), deeds < 10 ? -3 : 0);
            if (deeds >= 10) {
                due("17: the eldest are forgotten", x.count(3), deeds == 10 ? 3 : deeds - 11);
            }
        }
    }

    /** Deeds and undoing by turns, often enough to go round any buffer of ten. */
    private static void roundTheBuffer() {
        OrderMerge x = Check.told(HOUSE);
        List<Integer> moods = new ArrayList<>();
        int mood = 3;
        for (int round = 0; round < 40; round++) {
            for (int i = 0; i <= round % 7; i++) {
                int to = (7 * round + 3 * i + 1) % 10;
                due("16: what it was", x.mood(to), mood);
                moods.add(mood);
                mood = to;
                if (moods.size() > 10) {
                    moods.remove(0);
                }
            }
            int n = 1 + round % 5;
            if (n <= moods.size()) {
                for (int i = 0; i < n; i++) {
                    mood = moods.remove(moods.size() - 1);
                }
                due("17: round " + round, x.undo(n), moods.size());
            } else {
                due("17: round " + round, x.undo(n), -3);
            }
            due("49: round " + round, x.count(3), mood);
        }
    }

    /** Only deeds can be undone: not what is fed, told, written, made an image of, or asked. */
    private static void whatCannotBeUndone() {
        OrderMerge x = Check.told(HOUSE);
        x.mood(4);
        x.feed(0, 0, 0, 0, 0);
        x.house(900);
        x.numbers(0, 1, 3);
        x.write(0, 1, 15);
        x.lists(0, 7);
        x.image(1);
        x.judge(0, 2);
        x.perform(0);
        x.perform(3);
        x.give(0, 0);
        x.undo(9);
        due("17: one alone did some", x.count(6), 1);
        due("17: a day of which none can be", new OrderMerge().day(noMoodSeed(), 1), 0);
        OrderMerge y = new OrderMerge();
        y.day(noMoodSeed(), 1);
        due("17: it can't be undone", y.count(6), 0);
        due("17: again, too", x.mood(4), 4);
        due("17: again, too", x.define(0, 0, 0), 1);
        due("17: these did it once more", x.count(6), 3);
        due("17: a tray stays as it is", x.undo(3), 0);
        due("45: a tray stays as it is", x.write(0, 1, 16), 16);
    }

    private static int noMoodSeed() {
        int seed = 0;
        while (((1103515245 * seed + 12345) >>> 16) % 6 == 0) {
            seed++;
        }
        return seed;
    }

    /** What the call that does the same answers: 0 it can be, else why not. */
    private static int byCall(OrderMerge x, long v) {
        int answer = -11;
        int pair = (int) (v % 100);
        if (v >= 10 && v <= 19) {
            answer = x.mood((int) v - 10);
        } else if (v >= 100 && v <= 199) {
            answer = x.give(pair / 10, pair % 10);
        } else if (v >= 200 && v <= 299) {
            answer = x.take(pair / 10, pair % 10);
        } else if (v >= 300 && v <= 399) {
            answer = x.swap(pair / 10, pair % 10);
        } else if (v >= 1000 && v <= 1299) {
            answer = x.define(pair % 10, pair / 10, (int) (v - 1000) / 100);
        }
        return answer >= 0 ? 0 : -10 - answer;
    }

    /** "DEEDS: .. others: 1": all numbers about, and some far off. */
    private static void everyDeed() {
        for (String text : new String[] {HOUSE, TEN}) {
            for (long v = -20; v <= 1500; v++) {
                judgesAs(text, v);
            }
        }
        long[] far = {1999, 2000, 10010, 32767, 65546, 1L << 31, 1L << 32 | 10, 1L << 32 | 150, -(1L << 32) + 10,
            Long.MAX_VALUE, Long.MIN_VALUE, Long.MIN_VALUE + 10};
        for (long v : far) {
            judgesAs(TEN, v);
        }
        OrderMerge x = Check.told(TEN);
        for (long v : new long[] {9, 20, 99, 400, 999, 1300}) {
            Check.fill(x, 0, 3, v);
            due("18: others: 1: " + v, x.judge(0, 1), 1);
        }
    }

    private static void judgesAs(String text, long v) {
        OrderMerge x = Check.told(text);
        OrderMerge y = Check.told(text);
        int why = byCall(y, v);
        Check.fill(x, 0, 3, v);
        due("18: deed " + v, x.judge(0, 0), why == 0 ? -1 : 0);
        due("18: why deed " + v, x.judge(0, 1), why);
        due("18: orders behind deed " + v, x.judge(0, 2), y.count(4));
        due("18: links behind deed " + v, x.judge(0, 3), y.count(1));
    }

    private static void everyDeedDone() {
        for (int v = 0; v < 1310; v++) {
            OrderMerge x = Check.told(TEN);
            OrderMerge y = Check.told(TEN);
            int why = byCall(y, v);
            Check.fill(x, 3, 1, v);
            due("19: deed " + v, x.perform(3), why == 0 ? 1 : 0);
            due("17: deed " + v, x.count(6), why == 0 ? 1 : 0);
            sameFacts("19: done as by the call: " + v, facts(x), facts(y));
        }
    }

    /** "What 0: the first place that can't be (NONE), 1: why (0), 2: .. then, 3: .. then." */
    private static void judgedTillOneCannotBe() {
        OrderMerge x = Check.told("house mood 0;class;class 0;class 0;class 2;");
        judgedAre(x, new long[] {}, -1, 0, 0b1111, 3);
        judgedAre(x, new long[] {9}, 0, 1, 0b1111, 3);
        judgedAre(x, new long[] {120, 121, 13}, 0, 2, 0b1111, 3);
        judgedAre(x, new long[] {121}, -1, 0, 0b0011, 4);
        judgedAre(x, new long[] {121, 121, 320}, 1, 2, 0b0011, 4);
        judgedAre(x, new long[] {121, 320}, -1, 0, 0b1111, 4);
        judgedAre(x, new long[] {121, 320, 140}, 2, 1, 0b1111, 4);
        judgedAre(x, new long[] {210, 220, 232, 210}, 3, 2, 0b1111, 0);
        // What one deed does, the next one finds.
        judgedAre(x, new long[] {1000, 1200, 1200}, 2, 2, 0b1111, 3);
        judgedAre(x, new long[] {131, 132}, 1, 2, 0b1111, 4);
        due("18: nothing was done", x.count(6), 0);
        due("18: nothing was done", x.count(1), 3);
    }

    private static void judgedAre(OrderMerge x, long[] deeds, int... due) {
        Check.fill(x, 2, 2, deeds);
        for (int what = 0; what < 4; what++) {
            due("18: " + deeds.length + " deeds, what " + what, x.judge(2, what), due[what]);
        }
    }

    private static void fortyDeeds() {
        OrderMerge x = Check.told(HOUSE);
        x.numbers(0, 1, 40);
        for (int i = 0; i < 40; i++) {
            x.write(0, i, 10 + i % 10);
        }
        due("18: all forty", x.judge(0, 0), -1);
        due("19: all forty", x.perform(0), 40);
        due("49: the last mood", x.count(3), 9);
        due("17: as a whole", x.undo(1), 0);
        due("17: as a whole", x.count(3), 3);
        x.write(0, 39, 20);
        due("18: but the last", x.judge(0, 0), 39);
        due("18: but the last", x.judge(0, 1), 1);
        due("19: but the last", x.perform(0), 39);
        due("49: the one before", x.count(3), 8);
        x.write(0, 0, 20);
        due("18: not the first", x.judge(0, 0), 0);
        due("19: not the first", x.perform(0), 0);
        due("49: none behind it", x.count(3), 8);
        due("17: none was done", x.count(6), 1);
    }

    /** "They are done, till one can't be: how many": UNDONE as a whole. */
    private static void performedAsAWhole() {
        OrderMerge x = Check.told(HOUSE);
        List<Long> before = facts(x);
        Check.fill(x, 0, 1, 18, 151, 272, 274, 370, 1035, 1200, 1116, 77, 19);
        due("19: till one can't be", x.perform(0), 2);
        due("13: 2 is no parent of 7", x.judge(0, 1), 2);
        due("17: as a whole", x.undo(1), 0);
        sameFacts("17: as a whole", facts(x), before);
        x.write(0, 2, 273);
        due("19: till one can't be", x.perform(0), 8);
        due("49: mood", x.count(3), 8);
        due("5: given", x.parent(5, 1), 1);
        due("5: taken and swapped", x.parent(7, 0), 0);
        due("5: taken and swapped", x.parent(7, 1), 1);
        due("6: defined", x.defines(5, 3), 1);
        due("6: undefined", x.defines(0, 0), 0);
        due("6: defined", x.defines(6, 1), 2);
        due("49: one call", x.count(6), 1);
        due("17: as a whole", x.undo(1), 0);
        sameFacts("17: as a whole", facts(x), before);
        for (int tray : new int[] {-1, 4, LEAST, MOST}) {
            due("19: no such tray", x.perform(tray), -2);
        }
        for (int tray = 1; tray < 4; tray++) {
            due("19: missing", x.perform(tray), -6);
        }
    }

    /** "So many times (1 to 40)." */
    private static void daysBounds() {
        OrderMerge x = Check.told(HOUSE);
        for (int times : new int[] {0, -1, 41, 42, LEAST, MOST}) {
            due("20: how many times: " + times, x.day(1, times), -3);
        }
        due("20: nothing was done", x.count(6), 0);
        for (int times : new int[] {1, 40}) {
            OrderMerge y = Check.told(HOUSE);
            int done = y.day(1, times);
            due("20: from none to all", done >= 0 && done <= times ? 1 : 0, 1);
            due("17: as a whole", y.count(6), done > 0 ? 1 : 0);
        }
    }

    /** "x becomes 1103515245 x + 12345 (an int), it is x >>> 16", by long arithmetic; one can't be: on with the next. */
    private static void daysByLongArithmetic() {
        int[] seeds = {0, 1, -1, 2, 12345, LEAST, MOST, LEAST + 1, 1 << 30, 65535, 65536, -65536, 987654321};
        for (int seed : seeds) {
            for (int times : new int[] {1, 2, 7, 39, 40}) {
                OrderMerge x = Check.told(HOUSE);
                OrderMerge y = Check.told(HOUSE);
                long state = seed & 0xffffffffL;
                int done = 0;
                for (int i = 0; i < times; i++) {
                    state = state * 1103515245L + 12345 & 0xffffffffL;
                    int kind = (int) (state / 65536 % 6);
                    state = state * 1103515245L + 12345 & 0xffffffffL;
                    int[] base = {10, 100, 100, 200, 300, 1000};
                    int[] range = {10, 100, 100, 100, 100, 300};
                    done += byCall(y, base[kind] + state / 65536 % range[kind]) == 0 ? 1 : 0;
                }
                due("20: day(" + seed + ", " + times + ")", x.day(seed, times), done);
                sameFacts("20: behind day(" + seed + ", " + times + ")", facts(x), facts(y));
                due("17: as a whole", x.count(6), done > 0 ? 1 : 0);
                if (done > 0) {
                    x.undo(1);
                    sameFacts("17: undone as a whole", facts(x), facts(Check.told(HOUSE)));
                }
            }
        }
    }
}
