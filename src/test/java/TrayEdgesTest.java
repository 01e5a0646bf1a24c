import java.util.ArrayList;
import java.util.List;

/**
 * Promises 44 to 49 and what TRAYS and IMAGES are, sentence by sentence: each case that the document
 * names.
 */
public final class TrayEdgesTest {
    private static final int LEAST = Integer.MIN_VALUE;
    private static final int MOST = Integer.MAX_VALUE;
    private static final Check CHECK = new Check();

    public static void main(String[] args) {
        missingAtFirst();
        noneToFortyNumbers();
        allAreZero();
        inPlaceOfAnother();
        cutToItsSort();
        numbersThatLookLikeCodes();
        listedAsFarAsThereArePlaces();
        listsCodes();
        imagesAreTwo();
        allThatIsInAnImage();
        whatIsNotInAnImage();
        nothingCanBeUndoneBehind();
        imagesMadeAnew();
        counts();
        CHECK.end();
    }

    private static void due(String what, long got, long want) {
        CHECK.due(what, got, want);
    }

    /** "TRAYS 0 to 3 are MISSING at first." */
    private static void missingAtFirst() {
        OrderMerge x = new OrderMerge();
        for (int tray = 0; tray < 4; tray++) {
            due("45: missing", x.write(tray, 0, 1), -6);
            due("45: missing, ahead of the number", x.write(tray, 40, 1), -6);
            due("45: missing, ahead of the number", x.write(tray, -1, 1), -6);
            due("44: made", x.numbers(tray, tray, 0), 0);
            due("45: there, without numbers", x.write(tray, 0, 1), -7);
            for (int later = tray + 1; later < 4; later++) {
                due("44: the others are missing still", x.perform(later), -6);
            }
        }
        for (int tray : new int[] {-1, 4, 5, LEAST, MOST}) {
            due("44: no such tray", x.numbers(tray, 0, 0), -2);
            due("44: no such tray, ahead of n", x.numbers(tray, 0, -1), -2);
            due("45: no such tray", x.write(tray, 0, 0), -2);
            due("45: no such tray, ahead of the number", x.write(tray, -1, 0), -2);
        }
        for (int sort : new int[] {-1, 4, LEAST, MOST}) {
            due("44: no such sort", x.numbers(0, sort, 0), -2);
            due("44: no such sort, ahead of n", x.numbers(0, sort, 41), -2);
        }
    }

    /** "Or have 0 to 40 numbers", "-3, and the TRAY stays", "-7". */
    private static void noneToFortyNumbers() {
        for (int n = -3; n <= 44; n++) {
            OrderMerge x = new OrderMerge();
            Check.fill(x, 2, 2, 15, 16);
            boolean fits = n >= 0 && n <= 40;
            due("44: " + n + " numbers", x.numbers(2, 3, n), fits ? 0 : -3);
            int size = fits ? n : 2;
            for (int i = -2; i <= 42; i++) {
                due("45: number " + i + " of " + size, x.write(2, i, 1L << 40), i < 0 || i >= size ? -7
                    : fits ? 1L << 40 : 0);
            }
            for (int i : new int[] {LEAST, MOST}) {
                due("45: number " + i, x.write(2, i, 5), -7);
            }
        }
        OrderMerge x = new OrderMerge();
        Check.fill(x, 0, 1, 17);
        for (int n : new int[] {-1, 41, LEAST, MOST}) {
            due("44: it stays", x.numbers(0, 1, n), -3);
            due("44: its number stays", x.judge(0, 0), -1);
        }
        due("44: its number stays", x.perform(0), 1);
        due("44: its number stays", x.count(3), 7);
    }

    /** "A TRAY has n numbers of a sort, all 0." */
    private static void allAreZero() {
        OrderMerge x = Check.told("house mood 0;class;class;");
        Check.fill(x, 0, 1, 12, 13, 14);
        due("18: all can be", x.judge(0, 0), -1);
        due("44: anew", x.numbers(0, 1, 3), 0);
        due("18: 0 is no deed", x.judge(0, 0), 0);
        for (int sort = 0; sort < 4; sort++) {
            x.numbers(1, sort, 1);
            due("35: 0 is a class", x.would(1), 0);
            due("36: 0 is a class", x.wouldOrder(1, 1), 0);
            x.numbers(1, sort, 2);
            due("35: 0 twice", x.would(1), -3);
        }
        // What was beyond fewer numbers doesn't come back with more.
        Check.fill(x, 2, 3, 1, 1, 1, 1);
        x.numbers(2, 3, 1);
        x.numbers(2, 3, 2);
        due("35: 0 twice, not 0 and 1", x.would(2), -3);
    }

    /** "(in place of another one)". */
    private static void inPlaceOfAnother() {
        OrderMerge x = new OrderMerge();
        x.numbers(0, 3, 40);
        due("45: of 64 bits", x.write(0, 39, 1L << 50), 1L << 50);
        x.numbers(0, 0, 3);
        due("45: of 8 bits now", x.write(0, 2, 300), 44);
        due("45: three now", x.write(0, 3, 1), -7);
        x.numbers(0, 1, 5);
        due("45: of 16 bits now", x.write(0, 4, 300), 300);
        due("45: of 16 bits now", x.write(0, 4, 70000), 4464);
        x.numbers(1, 0, 1);
        due("45: the other one isn't touched", x.write(0, 4, 300), 300);
    }

    /** "Number i of a TRAY is v, cut to its sort: as it is there." */
    private static void cutToItsSort() {
        int[] bits = {8, 16, 32, 64};
        for (int sort = 0; sort < 4; sort++) {
            OrderMerge x = new OrderMerge();
            x.numbers(3, sort, 40);
            long greatest = sort == 3 ? Long.MAX_VALUE : (1L << bits[sort] - 1) - 1;
            long least = -greatest - 1;
            due("45: the greatest", x.write(3, 0, greatest), greatest);
            due("45: the least", x.write(3, 39, least), least);
            due("45: one more is the least", x.write(3, 1, greatest + 1), least);
            due("45: one less is the greatest", x.write(3, 1, least - 1), greatest);
            due("45: -1", x.write(3, 1, -1), -1);
            due("45: 0", x.write(3, 1, 0), 0);
            due("45: all bits", x.write(3, 2, Long.MAX_VALUE), sort == 3 ? Long.MAX_VALUE : -1);
            due("45: the highest bit", x.write(3, 2, Long.MIN_VALUE), sort == 3 ? Long.MIN_VALUE : 0);
            if (sort < 3) {
                due("45: all round", x.write(3, 2, (1L << bits[sort]) + 5), 5);
                due("45: all round", x.write(3, 2, 5 - (1L << bits[sort])), 5);
            }
        }
        // As it is there: the deed, not what was written.
        OrderMerge x = new OrderMerge();
        Check.fill(x, 0, 0, 256 + 18);
        due("19: 18", x.perform(0), 1);
        due("49: mood 8", x.count(3), 8);
        Check.fill(x, 0, 1, 65536 + 11);
        due("19: 11", x.perform(0), 1);
        Check.fill(x, 0, 2, (1L << 32) + 12);
        due("19: 12", x.perform(0), 1);
        due("49: mood 2", x.count(3), 2);
        Check.fill(x, 0, 3, (1L << 32) + 13);
        due("19: no deed", x.perform(0), 0);
        // Of 8 bits 150 is -106.
        OrderMerge y = Check.told("house mood 0;class;class;class;class;class;class;");
        Check.fill(y, 0, 0, 150);
        due("18: no deed", y.judge(0, 1), 1);
        Check.fill(y, 0, 1, 150);
        due("18: a deed", y.judge(0, 1), 0);
    }

    /** Numbers below 0 are answered as they are. */
    private static void numbersThatLookLikeCodes() {
        OrderMerge x = new OrderMerge();
        x.numbers(0, 0, 1);
        for (int v = -12; v < 0; v++) {
            due("45: " + v, x.write(0, 0, v), v);
        }
    }

    private static final String TEN = "house mood 0;class;class 0;class 1;class 2;class 3;class 4;class 5;class 6;class 7;class 8;";

    /** "The ORDER of a CLASS comes into a TRAY, as far as it has places: how many." */
    private static void listedAsFarAsThereArePlaces() {
        for (int places = 0; places <= 12; places++) {
            for (int c = 0; c < 10; c++) {
                OrderMerge x = Check.told(TEN);
                // 9 stands in the places that are not listed.
                x.numbers(0, c % 4, places);
                for (int i = 0; i < places; i++) {
                    x.write(0, i, 9);
                }
                int listed = Math.min(places, c + 1);
                due("46: " + places + " places for " + (c + 1), x.lists(0, c), listed);
                if (places >= 1 && places <= 4 && listed == places) {
                    due("46: as parents", x.would(0), 0);
                    for (int i = 0; i < places; i++) {
                        due("46: number " + i, x.wouldOrder(0, i + 1), c - i);
                    }
                }
                if (places == listed + 1 && places <= 4) {
                    due("46: 9 stays behind them", x.would(0), c == 9 ? -3 : 1);
                }
            }
        }
        OrderMerge x = Check.told(TEN);
        x.numbers(1, 0, 40);
        due("46: ten of forty", x.lists(1, 9), 10);
        Check.fill(x, 2, 1, 99, 99, 99, 15);
        due("46: three", x.lists(2, 2), 3);
        x.write(2, 0, 11);
        x.write(2, 1, 12);
        x.write(2, 2, 13);
        due("46: the fourth stays", x.perform(2), 4);
        due("46: the fourth stays", x.count(3), 5);
        x.numbers(2, 3, 1);
        due("46: again", x.lists(2, 7), 1);
        due("46: again", x.wouldOrder(2, 1), 7);
        due("46: it can't be undone", x.count(6), 1);
    }

    private static void listsCodes() {
        OrderMerge x = Check.told("house mood 0;class;class 0;class 0 1;class 2;");
        x.numbers(0, 0, 0);
        for (int c = -1; c <= 4; c++) {
            boolean is = c >= 0 && c < 4;
            for (int tray : new int[] {-1, 4, LEAST, MOST}) {
                due("46: the tray", x.lists(tray, c), -2);
            }
            due("46: the class, ahead of a missing tray", x.lists(1, c), is ? -6 : -2);
            due("46: without places", x.lists(0, c), !is ? -2 : c >= 2 ? -5 : 0);
        }
        due("46: the class", x.lists(0, LEAST), -2);
        due("46: the class", x.lists(0, MOST), -2);
    }

    /** "IMAGES 0 to 1 .. (none at first)." */
    private static void imagesAreTwo() {
        OrderMerge x = Check.told("house mood 1;class;");
        for (int i : new int[] {-1, 2, 3, LEAST, MOST}) {
            due("47: no such image", x.image(i), -2);
            due("48: no such image", x.restore(i), -2);
        }
        due("48: none was made", x.restore(0), -5);
        due("48: none was made", x.restore(1), -5);
        due("47: made", x.image(1), 0);
        due("48: the other wasn't", x.restore(0), -5);
        due("48: restored", x.restore(1), 0);
        due("48: again", x.restore(1), 0);
        x.mood(2);
        due("47: the other", x.image(0), 0);
        x.mood(3);
        due("48: the first", x.restore(1), 0);
        due("49: mood 1", x.count(3), 1);
        due("48: the other", x.restore(0), 0);
        due("49: mood 2", x.count(3), 2);
    }

    private static void restoredAs(String what, OrderMerge x, OrderMerge y) {
        List<Long> mine = new ArrayList<>();
        List<Long> its = new ArrayList<>();
        for (int one : new int[] {0, 1, 2, 3, 4, 5, 8}) {
            mine.add((long) x.count(one));
            its.add((long) y.count(one));
        }
        for (int c = 0; c < 10; c++) {
            for (int i = 0; i < 4; i++) {
                mine.add((long) x.parent(c, i));
                its.add((long) y.parent(c, i));
            }
            for (int m = 0; m < 8; m++) {
                mine.add((long) x.defines(c, m));
                its.add((long) y.defines(c, m));
                mine.add((long) x.call(c, m));
                its.add((long) y.call(c, m));
            }
        }
        due(what, mine.equals(its) ? 1 : 0, 1);
    }

    /** "THE HOUSE and what a call could bring back by UNDOING": all of it, laws and LINES, too. */
    private static void allThatIsInAnImage() {
        OrderMerge x = Twins.rich();
        x.image(1);
        x.house(40);
        due("48: another house", x.count(0), 2);
        due("48: restored", x.restore(1), 0);
        restoredAs("48: as it was", x, Twins.rich());
        OrderMerge y = Twins.rich();
        y.image(1);
        for (int seed = 1; seed < 9; seed++) {
            y.day(seed, 40);
        }
        y.restore(1);
        restoredAs("48: as it was ahead of eight days", y, Twins.rich());
        // Of an object without a text.
        OrderMerge z = new OrderMerge();
        z.image(0);
        Check.tell(z, "house mood 5;class;class 0;method 0 in 0 ends;says:9;seen:1=1;");
        z.restore(0);
        for (int what = 0; what <= 8; what++) {
            due("48: nothing is there, count(" + what + ")", z.count(what), 0);
        }
        due("48: nothing is there", z.state(0), -2);
        Check.tell(z, "house mood 5;class;method 0 in 0 ends;");
        due("48: nor a law", z.call(0, 0), 0);
    }

    private static void whatIsNotInAnImage() {
        OrderMerge x = Check.told("house mood 1;class;");
        Check.fill(x, 0, 0, 12);
        x.image(0);
        Check.fill(x, 0, 1, 300, 15);
        Check.tell(x, "?");
        Check.feed(x, "house mood 7;class;class;");
        x.restore(0);
        due("45: trays stay as they are", x.write(0, 0, 300), 300);
        due("4: faults, too", x.fault(0), 1);
        due("49: THE TAPE, too", x.count(7), 40);
        due("3: THE TAPE, too", x.house(40), 3);
        due("48: the image is there still", x.restore(0), 0);
        due("49: the image is there still", x.count(0), 1);
    }

    /** "Nothing can be UNDONE behind." */
    private static void nothingCanBeUndoneBehind() {
        OrderMerge x = Check.told("house mood 1;class;class;");
        x.mood(2);
        x.give(1, 0);
        due("47: made", x.image(0), 0);
        due("47: to make one changes nothing", x.count(6), 2);
        x.mood(3);
        due("48: restored", x.restore(0), 0);
        due("48: nothing can be undone", x.count(6), 0);
        due("48: nothing can be undone", x.undo(1), -3);
        due("49: as it was", x.count(3), 2);
        due("5: as it was", x.parent(1, 0), 0);
        x.mood(9);
        due("17: what comes behind can", x.undo(1), 0);
        due("17: as restored", x.count(3), 2);
        OrderMerge y = Check.told("house mood 1;class;class;");
        y.mood(2);
        y.give(1, 0);
        y.image(0);
        due("17: undone behind the making", y.undo(2), 0);
        due("17: undone behind the making", y.count(3), 1);
        due("17: undone behind the making", y.parent(1, 0), -1);
        y.restore(0);
        due("48: the image isn't undone", y.parent(1, 0), 0);
    }

    private static void imagesMadeAnew() {
        OrderMerge x = Check.told("house mood 1;class;");
        for (int mood = 0; mood <= 9; mood++) {
            x.mood(mood);
            due("47: in place of another", x.image(0), 0);
            x.mood((mood + 5) % 10);
            due("48: the latest", x.restore(0), 0);
            due("49: the latest", x.count(3), mood);
            x.mood(4);
            due("48: it isn't used up", x.restore(0), 0);
            due("49: it isn't used up", x.count(3), mood);
        }
    }

    /** "0 CLASSES, 1 LINKS, .. 8 LINES. NONE for others." */
    private static void counts() {
        OrderMerge x = Check.told("house mood 6;class;class 0;class 0 1;class 2;class;says:1;says:2;seen:1=1;"
            + "method 0 in 0 ends;method 0 in 0 next;method 7 in 3 next;");
        int[] due = {5, 4, 2, 6, 0b10011, 0b00100, 0, 0, 12};
        for (int what = 0; what < due.length; what++) {
            due("49: count(" + what + ")", x.count(what), due[what]);
        }
        x.give(4, 3);
        x.define(4, 4, 0);
        x.mood(0);
        x.feed(1, 2, 3, 4, 5);
        int[] then = {5, 5, 3, 0, 0b00011, 0b00100, 3, 20, 12};
        for (int what = 0; what < then.length; what++) {
            due("49: then count(" + what + ")", x.count(what), then[what]);
        }
        for (int what : new int[] {-1, 9, 10, LEAST, MOST}) {
            due("49: NONE for others", x.count(what), -1);
        }
        OrderMerge most = Check.told("house mood 9;class;class 0;class 1 0;class 2 1 0;class 3 2 1 0;class 4 3 2 1;class 5 4 3 2;"
            + "class 6 5 4 3;class 7 6 5 4;class 8 7 6 5;");
        due("49: as many links as there can be", most.count(1), 30);
        due("49: all have an order", most.count(4), 1023);
        due("49: none is refused", most.count(5), 0);
    }
}
