/**
 * Promises 29 to 33 and what a CALL is and SAYS, sentence by sentence: each case that the document
 * names.
 */
public final class CallEdgesTest {
    private static final int LEAST = Integer.MIN_VALUE;
    private static final int MOST = Integer.MAX_VALUE;
    private static final int TO_NONE = -99000001;
    private static final Check CHECK = new Check();

    public static void main(String[] args) {
        theFirstThatDefinesIt();
        onToTheNext();
        tenInARow();
        withoutALaw();
        whatIsNext();
        keptFromAndTo();
        keptEachTime();
        numbersThatLookLikeCodes();
        namesInTheLaws();
        depthInTheOrderOfTheCaller();
        sumsAndTruths();
        sixDeep();
        whereItIsSeen();
        seenByTheMood();
        serves();
        deadOnes();
        allAreDead();
        codes();
        CHECK.end();
    }

    private static void due(String what, long got, long want) {
        CHECK.due(what, got, want);
    }

    private static void throughIs(OrderMerge x, int c, int m, int... row) {
        for (int i = 0; i < row.length; i++) {
            due("30: through(" + c + ", " + m + ", " + i + ")", x.through(c, m, i), row[i]);
        }
        for (int i : new int[] {row.length, row.length + 1, 10, MOST}) {
            due("30: not so many: through(" + c + ", " + m + ", " + i + ")", x.through(c, m, i), -1);
        }
        due("30: i is below 0", x.through(c, m, -1), -3);
        due("30: i is below 0", x.through(c, m, LEAST), -3);
    }

    /** "It goes along that ORDER to the first that DEFINES it." */
    private static void theFirstThatDefinesIt() {
        OrderMerge x = Check.told("house mood 0;class;class 0;class 0;class 1 2;method 0 in 0 ends;method 0 in 2 ends;"
            + "method 1 in 3 ends;method 1 in 0 ends;method 2 in 0 ends;");
        throughIs(x, 3, 0, 2);
        throughIs(x, 1, 0, 0);
        throughIs(x, 3, 1, 3);
        throughIs(x, 3, 2, 0);
        throughIs(x, 3, 3);
        due("29: it goes to none", x.call(3, 3), TO_NONE);
        due("29: an heir's is none of its parent's", x.call(2, 1), 1);
    }

    /** "If that goes on to the NEXT, on behind it to the next such one, and so on." */
    private static void onToTheNext() {
        OrderMerge x = Check.told("house mood 0;class;class 0;class 0;class 1 2;class 3;method 0 in 0 next;method 0 in 1 next;"
            + "method 0 in 2 next;method 0 in 4 next;method 1 in 4 next;method 1 in 2 ends;method 1 in 0 ends;");
        throughIs(x, 4, 0, 4, 1, 2, 0);
        throughIs(x, 4, 1, 4, 2);
        x.define(1, 0, 0);
        throughIs(x, 4, 0, 4, 1);
        x.define(1, 0, 2);
        throughIs(x, 4, 0, 4, 2, 0);
        x.swap(3, 0);
        throughIs(x, 3, 0, 2, 0);
        x.define(4, 1, 0);
        throughIs(x, 4, 1, 4);
    }

    private static OrderMerge ten(String laws) {
        StringBuilder text = new StringBuilder("house mood 4;class;");
        for (int c = 1; c < 10; c++) {
            text.append("class ").append(c - 1).append(";");
        }
        for (int c = 0; c < 10; c++) {
            text.append("method 7 in ").append(c).append(" next;");
        }
        return Check.told(text + laws);
    }

    private static void tenInARow() {
        OrderMerge x = ten("");
        throughIs(x, 9, 7, 9, 8, 7, 6, 5, 4, 3, 2, 1, 0);
        due("29: 450 and 70", x.call(9, 7), 520);
        due("29: depth of all", ten("says:next*2+depth;").call(9, 7), 512 * 9 + 256 * 8 + 128 * 7 + 64 * 6 + 32 * 5
            + 16 * 4 + 8 * 3 + 4 * 2 + 2);
        due("31: itself", x.serves(0, 7), 1);
        for (int c = 0; c < 9; c++) {
            x.define(c + 1, 7, 2);
        }
        due("31: all ten", x.serves(0, 7), 1023);
    }

    /** "Without one: 10 times the CLASS that DEFINES it, the METHOD and next, added." */
    private static void withoutALaw() {
        OrderMerge x = Check.told("house mood 9;class;class 0;class 1;method 0 in 0 ends;method 3 in 0 ends;method 3 in 1 next;"
            + "method 7 in 2 next;method 7 in 0 next;");
        due("29: class 0, method 0", x.call(2, 0), 0);
        due("29: 3", x.call(0, 3), 3);
        due("29: 13 and 3", x.call(1, 3), 16);
        due("29: the caller doesn't matter", x.call(2, 3), 16);
        due("29: 27 and 7", x.call(2, 7), 34);
        x.mood(0);
        due("29: the mood doesn't matter", x.call(2, 7), 34);
    }

    /** "next: what the next one it goes to SAYS (0: it ENDS there, there is none)." */
    private static void whatIsNext() {
        String text = "house mood 0;class;class 0;class 1;method 0 in 0 ends;method 0 in 1 next;method 0 in 2 next;";
        OrderMerge x = Check.told(text + "says:next*10+in+1;");
        due("29: it ends there", x.call(0, 0), 1);
        due("29: next", x.call(1, 0), 12);
        due("29: next of next", x.call(2, 0), 123);
        x.define(2, 0, 0);
        due("29: it ends there", x.call(2, 0), 3);
        x.define(2, 0, 1);
        x.define(0, 0, 1);
        due("29: there is none", x.call(2, 0), 123);
        x.define(0, 0, 2);
        due("29: there is none", x.call(2, 0), 23);
        // For whom it is called stays, along the way.
        due("29: for stays", Check.told(text + "says:next*10+for;").call(2, 0), 222);
        OrderMerge unseen = Check.told(text + "says:next*10+in+1;seen:not in=1;");
        due("29: the next one that is seen", unseen.call(2, 0), 13);
    }

    private static int says(String law) {
        return Check.told("house mood 7;class;class 0;method 4 in 0 ends;says:" + law + ";").call(1, 4);
    }

    /** "Each + - * is kept from -1,000,000 to 1,000,000." */
    private static void keptFromAndTo() {
        String million = "(100*100*100)";
        due("29: a million", says(million), 1000000);
        due("29: one less", says(million + "-1"), 999999);
        due("29: one more", says(million + "+1"), 1000000);
        due("29: a million twice", says(million + "+" + million), 1000000);
        due("29: a million times a million", says(million + "*" + million), 1000000);
        due("29: minus a million", says("0-" + million), -1000000);
        due("29: one more", says("0-" + million + "+1"), -999999);
        due("29: one less", says("0-" + million + "-1"), -1000000);
        due("29: minus two millions", says("0-" + million + "-" + million), -1000000);
        due("29: times", says("(0-" + million + ")*" + million), -1000000);
        due("29: times", says("(0-" + million + ")*(0-" + million + ")"), 1000000);
        due("29: 999 * 999", says("999*999"), 998001);
        due("29: 998001 + 1999", says("999*999+999+999+1"), 1000000);
        due("29: 998001 + 2000", says("999*999+999+999+2-1"), 999999);
    }

    /** Kept at each step, not at the last one alone. */
    private static void keptEachTime() {
        String million = "100*100*100";
        due("29: + is kept ahead of -", says(million + "+999-999"), 999001);
        due("29: - is kept ahead of +", says("0-" + million + "-999+999"), -999001);
        due("29: * is kept ahead of -", says("999*999*2-999"), 999001);
        due("29: from the left", says("999*999*2*0"), 0);
        due("29: - from the left", says("1-2-3"), -4);
        due("29: in a truth, too", says("if " + million + "+1=" + million + " then 1 else 2 end"), 1);
        OrderMerge x = Check.told("house mood 0;class;class 0;class 1;method 0 in 0 ends;method 0 in 1 next;"
            + "method 0 in 2 next;says:if in=0 then " + million + " else next+for end;");
        due("29: next is kept", x.call(2, 0), 1000000);
        OrderMerge y = ten("says:if in=0 then 1 else next*6 end;");
        due("29: 6 to the 7th", y.call(7, 7), 279936);
        due("29: 6 to the 8th is kept", y.call(8, 7), 1000000);
        due("29: and on", y.call(9, 7), 1000000);
    }

    /** What a call says can be -1, -2, ..: its codes stand far below. */
    private static void numbersThatLookLikeCodes() {
        due("29: -1 isn't NONE", says("0-1"), -1);
        due("29: -2", says("0-2"), -2);
        due("29: -5", says("0-5"), -5);
        due("29: 0", says("0"), 0);
    }

    /** "method; in: the CLASS that DEFINES it; for: that for which it is CALLED; mood: the MOOD." */
    private static void namesInTheLaws() {
        due("29: method", says("method"), 4);
        due("29: in", says("in+10"), 10);
        due("29: for", says("for"), 1);
        due("29: mood", says("mood"), 7);
        due("29: depth", says("depth"), 1);
        due("29: next", says("next"), 0);
        due("29: N", says("999"), 999);
        due("29: N", says("009"), 9);
        OrderMerge x = Check.told("house mood 7;class;method 0 in 0 ends;says:mood;");
        for (int mood = 0; mood <= 9; mood++) {
            x.mood(mood);
            due("29: the mood", x.call(0, 0), mood);
        }
        x.undo(10);
        due("29: the mood undone", x.call(0, 0), 7);
    }

    /** "depth: which place in has in the ORDER of for (0 the first)": those that define nothing count. */
    private static void depthInTheOrderOfTheCaller() {
        OrderMerge x = Check.told("house mood 0;class;class 0;class 0;class 1 2;method 0 in 0 ends;says:depth;");
        due("29: itself", x.call(0, 0), 0);
        due("29: its parent", x.call(1, 0), 1);
        due("29: behind 1 and 2", x.call(3, 0), 3);
        x.define(2, 0, 0);
        due("29: behind 1", x.call(3, 0), 2);
        due("29: itself", x.call(2, 0), 0);
    }

    private static void sumsAndTruths() {
        due("29: * ahead of +", says("1+2*3"), 7);
        due("29: * ahead of -", says("10-2*3"), 4);
        due("29: ( )", says("(1+2)*3"), 9);
        due("29: if holds", says("if 1=1 then 2 else 3 end"), 2);
        due("29: if doesn't", says("if 1>1 then 2 else 3 end"), 3);
        due("29: and ahead of or", says("if 1=1 or 1=1 and 1=2 then 2 else 3 end"), 2);
        due("29: and ahead of or", says("if 1=2 and 1=1 or 1=1 then 2 else 3 end"), 2);
        due("29: [ ]", says("if [1=1 or 1=1] and 1=2 then 2 else 3 end"), 3);
        due("29: not binds one", says("if not 1=2 and 1=2 then 2 else 3 end"), 3);
        due("29: not of all", says("if not [1=2 and 1=2] then 2 else 3 end"), 2);
        due("29: not not", says("if not not 1=2 then 2 else 3 end"), 3);
        String[] signs = {"=", "<", ">"};
        for (int a = 0; a <= 2; a++) {
            for (int b = 0; b <= 2; b++) {
                int[] holds = {a == b ? 1 : 0, a < b ? 1 : 0, a > b ? 1 : 0};
                for (int s = 0; s < 3; s++) {
                    String truth = a + signs[s] + b;
                    due("29: " + truth, says("if " + truth + " then 1 else 0 end"), holds[s]);
                    due("29: not " + truth, says("if not " + truth + " then 1 else 0 end"), 1 - holds[s]);
                    due("29: minus: " + truth, says("if 0-" + a + signs[s] + "0-" + b + " then 1 else 0 end"),
                        s == 0 ? holds[0] : holds[3 - s]);
                }
            }
        }
    }

    /** Six within one another, each with as much to wait for as can be. */
    private static void sixDeep() {
        for (String innermost : new String[] {"1", "0"}) {
            String truth = "1=2 or 1=1 and 1=0+1*" + innermost;
            for (int i = 0; i < 6; i++) {
                String sum = "if " + truth + " then 1 else 0 end";
                due("29: " + (i + 1) + " deep", says(sum), innermost.equals("1") ? 1 : 0);
                truth = "1=2 or 1=1 and 1=0+1*" + sum;
            }
            String text = "house mood 0;class;method 0 in 0 ends;seen:" + truth + ";";
            due("29: six deep in seen", Check.told(text).call(0, 0), innermost.equals("1") ? 0 : TO_NONE);
        }
        String sum = "3";
        for (int i = 0; i < 3; i++) {
            sum = "if 1=2 then 9 else 1+2*(" + sum + ")-1 end";
        }
        due("29: in else and ( )", says(sum), 3 * 8);
    }

    /** "And where it is SEEN": what isn't is passed over, be it an end or not. */
    private static void whereItIsSeen() {
        String text = "house mood 0;class;class 0;class 1;method 0 in 0 ends;method 0 in 1 ends;method 0 in 2 ends;"
            + "method 1 in 0 ends;method 1 in 2 next;";
        OrderMerge x = Check.told(text + "seen:not in=1 and not in=for;");
        due("29: not in itself", x.call(0, 0), TO_NONE);
        due("29: past itself", x.call(1, 0), 0);
        due("29: past itself and 1", x.call(2, 0), 0);
        throughIs(x, 2, 0, 0);
        throughIs(x, 2, 1, 0);
        OrderMerge none = Check.told(text + "seen:1=2;");
        due("29: seen nowhere", none.call(2, 0), TO_NONE);
        throughIs(none, 2, 0);
        OrderMerge method = Check.told(text + "seen:method=1;");
        due("29: another method", method.call(2, 0), TO_NONE);
        due("29: this method", method.call(2, 1), 21 + 1);
        OrderMerge always = Check.told(text);
        due("29: without one: always", always.call(2, 0), 20);
        // What isn't seen is no next one either.
        OrderMerge late = Check.told(text + "seen:in>0;says:next*10+in+1;");
        due("29: no next one", late.call(2, 1), 3);
    }

    private static void seenByTheMood() {
        OrderMerge x = Check.told("house mood 4;class;class 0;method 0 in 0 ends;method 0 in 1 next;seen:in=0 or mood>4;");
        due("29: mood 4", x.call(1, 0), 0);
        due("31: mood 4", x.serves(0, 0), 3);
        due("32: mood 4", x.dead(), 1);
        due("33: mood 4", x.firstDead(), 10);
        due("16: another mood", x.mood(5), 4);
        due("29: mood 5", x.call(1, 0), 10);
        due("31: mood 5", x.serves(0, 0), 1);
        due("31: mood 5", x.serves(1, 0), 2);
        due("32: mood 5", x.dead(), 0);
        due("33: mood 5", x.firstDead(), -1);
        due("17: undone", x.undo(1), 0);
        due("32: mood 4 again", x.dead(), 1);
        due("33: mood 4 again", x.firstDead(), 10);
    }

    /** "CLASSES for which a CALL of a METHOD goes first to a CLASS, as bits." */
    private static void serves() {
        OrderMerge x = Check.told("house mood 0;class;class 0;class 1;class 0 1;class 3;class;method 0 in 0 ends;"
            + "method 0 in 1 next;method 0 in 3 ends;method 0 in 4 ends;method 0 in 5 ends;");
        due("7: refused", x.state(3), 1);
        due("31: first, not next", x.serves(0, 0), 0b000001);
        due("31: itself and its heir", x.serves(1, 0), 0b000110);
        due("31: it doesn't define it", x.serves(2, 0), 0);
        due("31: a refused one", x.serves(3, 0), 0);
        due("31: a lost one", x.serves(4, 0), 0);
        due("31: itself alone", x.serves(5, 0), 0b100000);
        for (int c = 0; c < 6; c++) {
            due("31: defined nowhere", x.serves(c, 7), 0);
        }
    }

    /** "Definitions (10 times the CLASS, and the METHOD) through which no CALL of any CLASS goes." */
    private static void deadOnes() {
        OrderMerge x = Check.told("house mood 0;class;class 0;class 0 1;class 2;method 0 in 0 ends;method 0 in 1 ends;"
            + "method 7 in 2 ends;method 0 in 3 ends;method 5 in 3 next;");
        due("32: those of refused and lost ones", x.dead(), 3);
        due("33: the first", x.firstDead(), 27);
        due("15: undefined", x.define(2, 7, 2), 1);
        due("32: two", x.dead(), 2);
        due("33: the next", x.firstDead(), 30);
        due("13: it has an order", x.take(2, 0), 0);
        due("32: none", x.dead(), 0);
        due("33: there are none", x.firstDead(), -1);
        // Not the first one of any call, but gone through.
        OrderMerge y = Check.told("house mood 0;class;class 0;method 0 in 0 ends;method 0 in 1 next;seen:in<for;");
        due("32: 1 isn't seen for itself, 0 is for 1", y.dead(), 1);
        due("33: 1 isn't seen for itself, 0 is for 1", y.firstDead(), 10);
    }

    private static void allAreDead() {
        OrderMerge x = Check.told("house mood 0;class;class;class;class;class;class;class;class;class;class;seen:1=2;");
        due("32: none is defined", x.dead(), 0);
        due("33: none is defined", x.firstDead(), -1);
        for (int c = 9; c >= 0; c--) {
            for (int m = 7; m >= 0; m--) {
                x.define(c, m, m % 2);
                due("33: the first is " + c + ", " + m, x.firstDead(), 10 * c + m);
            }
        }
        due("32: all eighty", x.dead(), 80);
    }

    private static void codes() {
        OrderMerge x = Check.told("house mood 0;class;class 0;class 0 1;class 2;method 0 in 0 ends;");
        for (int c : new int[] {-1, 4, 9, 10, LEAST, MOST}) {
            due("29: no such class", x.call(c, 0), -99000002);
            due("29: no such class, method", x.call(c, 8), -99000002);
            due("30: no such class", x.through(c, 0, 0), -2);
            due("30: no such class, told first", x.through(c, 0, -1), -2);
            due("31: no such class", x.serves(c, 0), -2);
        }
        for (int m : new int[] {-1, 8, 9, LEAST, MOST}) {
            for (int c = 0; c < 4; c++) {
                due("29: no such method", x.call(c, m), -99000002);
                due("30: no such method, told first", x.through(c, m, -1), -2);
                due("31: no such method", x.serves(c, m), -2);
            }
        }
        for (int c = 2; c < 4; c++) {
            for (int m = 0; m < 8; m++) {
                due("29: there is no order", x.call(c, m), -99000005);
                due("30: there is no order", x.through(c, m, 0), -5);
                due("30: i, told ahead of it", x.through(c, m, -1), -3);
            }
        }
    }
}
