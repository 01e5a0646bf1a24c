/** Promises 1 to 11: a new object, feed, house, fault, parent, defines, state, order, place, above, below. */
public final class HouseTest {
    private static final Check CHECK = new Check();

    public static void main(String[] args) {
        newObject();
        tape();
        houseOrItsCode();
        goodTexts();
        faultsOfTokens();
        faultsOfPlaces();
        faultsOfBounds();
        faultsOfNumbers();
        faultsLeaveAllAsItWas();
        looks();
        merges();
        CHECK.end();
    }

    private static void due(String what, long got, long want) {
        CHECK.due(what, got, want);
    }

    private static void newObject() {
        OrderMerge x = new OrderMerge();
        for (int what = 0; what <= 8; what++) {
            due("1: new count(" + what + ")", x.count(what), 0);
        }
        due("1: new state", x.state(0), -2);
        due("4: new fault(0)", x.fault(0), 0);
        due("4: new fault(1)", x.fault(1), -1);
        due("4: fault(2)", x.fault(2), -1);
        due("4: fault(-1)", x.fault(-1), -1);
    }

    private static void tape() {
        OrderMerge x = new OrderMerge();
        for (int i = 1; i <= 45; i++) {
            due("2: feed " + i, x.feed(0x20202020, 0x20202020, 0x20202020, 0x20202020, 0x20202020), 20L * i);
        }
        due("2: feed 46", x.feed(0, 0, 0, 0, 0), -5);
        due("2: the tape stays", x.count(7), 900);
        due("3: blanks alone", x.house(900), -32);
        due("4: the end", x.fault(1), 900);
        due("3: the tape is empty", x.count(7), 0);
        due("2: feed again", x.feed(0, 0, 0, 0, 0), 20);
        // As many tokens as there can be.
        OrderMerge z = new OrderMerge();
        due("3: 900 tokens", Check.tell(z, ";".repeat(900)), -32);
        due("4: 900 tokens", z.fault(1), 0);
        String most = "house mood 0;says:1" + "+1".repeat(439) + ";";
        due("3: 899 bytes", Check.tell(z, most + "?"), -31);
        due("4: 899 bytes", z.fault(1), most.length());
        due("3: a long law", Check.tell(z, most), 2);
        // "house mood 7;" by its numbers: the highest byte of each int comes first.
        OrderMerge y = new OrderMerge();
        y.feed(0x686f7573, 0x65206d6f, 0x6f642037, 0x3b202020, 0x20202020);
        due("2: bytes", y.house(13), 1);
        due("2: mood", y.count(3), 7);
    }

    private static void houseOrItsCode() {
        OrderMerge x = new OrderMerge();
        due("3: house(0)", x.house(0), -32);
        due("3: its place", x.fault(1), 0);
        due("3: house(1) of an empty tape", x.house(1), -3);
        due("4: a house() that wasn't read", x.fault(0), 2);
        Check.feed(x, "house mood 4;");
        due("3: house(-1)", x.house(-1), -3);
        due("3: house(21)", x.house(21), -3);
        due("3: the tape stays", x.count(7), 20);
        due("3: good", x.house(13), 1);
        due("3: the tape is empty, all of it", x.count(7), 0);
        due("4: good", x.fault(0), 0);
        due("4: good place", x.fault(1), -1);
        due("8: lines", x.count(8), 1);
    }

    private static void goodTexts() {
        good("house mood 0;", 1);
        good(" \n house\nmood 009 ; ", 1);
        good("house mood0;class;class0;method7in1ends;method7in0next;", 5);
        good("house mood 0;says:1;says:method+in+for+mood+next+depth;seen:1=1;seen:method*in<for-mood;", 5);
        good("house mood 0;says:((((((1))))))+((((((1))))));", 2);
        good("house mood 0;seen:[[[[[[1=1]]]]]]and[[[[[[1=1]]]]]]or not not not not not not 1=1;", 2);
        good("house mood 0;seen:not [not [not (1)=(1)]];", 2);
        good("house mood 0;says:if 1=1 then if 1<2 then if 1>2 then 1 else 2 end else 3 end else 4 end*2;", 2);
        good("house mood 0;says:if if if if if if 1=1 then 1 else 2 end=1 then 1 else 2 end=1 then 1 else 2 end=1"
            + " then 1 else 2 end=1 then 1 else 2 end=1 then 1 else 2 end;", 2);
        good("house mood 0;seen:if 1=1 then 1 else 2 end=1;", 2);
        good("house mood 0;class;class;class;class;class;class;class;class;class;class 8 7 6 5;", 11);
        good("house mood 0;class;class;class 1 0;method 0 in 2 ends;method 0 in 2 next;method 0 in 2 ends;", 7);
        good("house mood 0;says:999-000;", 2);
    }

    private static void good(String text, int lines) {
        OrderMerge x = new OrderMerge();
        due("3: " + text, Check.tell(x, text), lines);
        due("4: " + text, x.fault(0), 0);
        due("4: its place: " + text, x.fault(1), -1);
        due("49: lines of " + text, x.count(8), lines);
    }

    /** A text with its fault's kind; the sign | stands where the fault's token begins. */
    private static void bad(String marked, int kind) {
        int place = marked.indexOf('|');
        String text = marked.substring(0, place) + marked.substring(place + 1);
        OrderMerge x = new OrderMerge();
        due("3: " + marked, Check.tell(x, text), -30 - kind);
        due("4: kind: " + marked, x.fault(0), kind);
        due("4: place: " + marked, x.fault(1), place);
        due("3: no house: " + marked, x.count(8), 0);
    }

    private static void faultsOfTokens() {
        bad("|House mood 0;", 1);
        bad("house mood |0000;", 1);
        bad("house mood |12345;", 1);
        bad("house mood 0|\t;", 1);
        bad("house mood 0|" + (char) 233 + ";", 1);
        bad("house mood 0|" + (char) 0 + ";", 1);
        bad("house mood 0;class|_;", 1);
        bad("house mood 0;says:1|/2;", 1);
        bad("house mood 0;says:1+|1000;", 1);
        bad("house mood 0;|{", 1);
        // What comes first along the text counts, be its kind greater.
        bad("house mood |10;?", 3);
        bad("house |; ?", 2);
        // A token that can't stand there is no better for being out of bounds.
        bad("house |99;", 2);
        bad("|99", 2);
    }

    private static void faultsOfPlaces() {
        bad("|", 2);
        bad("  |", 2);
        bad("|class;", 2);
        bad("|mood 0;", 2);
        bad("|houses mood 0;", 2);
        bad("house mood|", 2);
        bad("house mood 0|", 2);
        bad("house mood 0   |", 2);
        bad("house mood 0 |1;", 2);
        bad("house mood 0;|;", 2);
        bad("house mood 0;|house mood 0;", 2);
        bad("house mood 0;class;|in 0;", 2);
        bad("house mood 0;class |class;", 2);
        bad("house mood 0;method |in 0 ends;", 2);
        bad("house mood 0;class;method 0 |0 ends;", 2);
        bad("house mood 0;class;method 0 in 0 |end;", 2);
        bad("house mood 0;class;method 0 in |ends;", 2);
        bad("house mood 0;class;method 0 in 0 ends |next;", 2);
        bad("house mood 0;says |1;", 2);
        bad("house mood 0;says:|;", 2);
        bad("house mood 0;says:1+|;", 2);
        bad("house mood 0;says:|-1;", 2);
        bad("house mood 0;says:1 |1;", 2);
        bad("house mood 0;says:1|=1;", 2);
        bad("house mood 0;says:|[1=1];", 2);
        bad("house mood 0;says:|not 1=1;", 2);
        bad("house mood 0;says:(1|;", 2);
        bad("house mood 0;says:1|);", 2);
        bad("house mood 0;says:|says;", 2);
        bad("house mood 0;seen:|next=1;", 2);
        bad("house mood 0;seen:1=if 1=|depth then 1 else 2 end;", 2);
        bad("house mood 0;seen:1|;", 2);
        bad("house mood 0;seen:1=1|=1;", 2);
        bad("house mood 0;seen:(1|=1);", 2);
        bad("house mood 0;seen:[1|];", 2);
        bad("house mood 0;seen:[1=1|;", 2);
        bad("house mood 0;seen:1=1 and |;", 2);
        bad("house mood 0;seen:1=1 or |or", 2);
        bad("house mood 0;seen:not |;", 2);
        bad("house mood 0;says:if 1|then 1 else 2 end;", 2);
        bad("house mood 0;says:if 1=1 |else 2 end;", 2);
        bad("house mood 0;says:if 1=1 then 1 |end;", 2);
        bad("house mood 0;says:if 1=1 then 1 else 2|;", 2);
        bad("house mood 0;says:if 1=1 and 2=2 or 3=3 then 1 else |then;", 2);
    }

    private static void faultsOfBounds() {
        bad("house mood |10;", 3);
        bad("house mood |999;", 3);
        bad("house mood 0;class |0;", 3);
        bad("house mood 0;class;class |1;", 3);
        bad("house mood 0;class;class 0 |0;", 3);
        bad("house mood 0;class;class;class 0 1 |0;", 3);
        bad("house mood 0;class;method |8 in 0 ends;", 3);
        bad("house mood 0;class;method |8 in 5 ends;", 3);
        bad("house mood 0;class;method 7 in |1 ends;", 3);
        bad("house mood 0;method 7 in |0 ends;", 3);
        String five = "house mood 0;class;class;class;class;class;class 0 1 2 3 ";
        bad(five + "|5;", 3);
        bad(five + "|0;", 3);
        bad(five + "|99;", 3);
        bad(five + "|1000;", 1);
    }

    private static void faultsOfNumbers() {
        String five = "house mood 0;class;class;class;class;class;class 0 1 2 3 ";
        bad(five + "|4;", 4);
        bad("house mood 0;class;class;class;class;class;class;class;class;class;class;|class;", 4);
        bad("house mood 0;class;class;class;class;class;class;class;class;class;class;|class 99;", 4);
        bad("house mood 0;says:((((((|(1", 4);
        bad("house mood 0;says:((((((|if 1=1 then 1 else 1 end", 4);
        bad("house mood 0;seen:[[[not not not |[1=1", 4);
        bad("house mood 0;seen:[[[not not not |(1)=1", 4);
        bad("house mood 0;seen:not [not [if not 1=1 then 1 else (|(1))end=1]];", 4);
        // A seventh one that can't stand there is of the lesser kind.
        bad("house mood 0;says:((((((|[1=1", 2);
        bad("house mood 0;says:((((((|not", 2);
        bad("house mood 0;says:((((((1|(", 2);
        // The end of an if, ) and ] give back what they took, so does the UNIT of not.
        good("house mood 0;seen:not not not 1=1 and not not not not not not 1=1;", 2);
        good("house mood 0;says:if 1=1 then 1 else 2 end*((((((1))))));", 2);
    }

    private static void faultsLeaveAllAsItWas() {
        OrderMerge x = Check.told("house mood 5;class;class 0;method 1 in 0 ends;says:77;seen:1=1;");
        x.mood(6);
        due("3: fault", Check.tell(x, "house mood 1;class;class;says:1;seen:1=2;?"), -31);
        due("3: mood stays", x.count(3), 6);
        due("3: classes stay", x.count(0), 2);
        due("3: links stay", x.count(1), 1);
        due("3: lines stay", x.count(8), 6);
        due("3: laws stay", x.call(1, 1), 77);
        due("3: undo stays", x.count(6), 1);
        due("3: the tape doesn't", x.count(7), 0);
        due("3: a new house", Check.tell(x, "house mood 2;class;"), 2);
        due("3: nothing can be undone", x.count(6), 0);
        due("3: undo(1)", x.undo(1), -3);
        due("3: no definition", x.count(2), 0);
        due("3: no link", x.count(1), 0);
        x.define(0, 1, 0);
        due("3: no law of the last house", x.call(0, 1), 1);
    }

    private static void looks() {
        OrderMerge x = Check.told("house mood 3;class;class;class 0 1;class 1 0;class 2 3;class 4;class 0;"
            + "method 0 in 0 ends;method 7 in 2 next;");
        due("5: parent", x.parent(2, 0), 0);
        due("5: parent", x.parent(2, 1), 1);
        due("5: not so many", x.parent(2, 2), -1);
        due("5: not so many", x.parent(0, 0), -1);
        due("5: no class", x.parent(7, 0), -2);
        due("5: no class comes first", x.parent(-1, -1), -2);
        due("5: place", x.parent(2, -1), -3);
        due("5: far place", x.parent(2, Integer.MAX_VALUE), -1);
        due("6: ends", x.defines(0, 0), 1);
        due("6: next", x.defines(2, 7), 2);
        due("6: not", x.defines(2, 0), 0);
        due("6: method 8", x.defines(2, 8), -2);
        due("6: method -1", x.defines(2, -1), -2);
        due("6: class 7", x.defines(7, 0), -2);
        due("7: order", x.state(3), 0);
        due("7: refused", x.state(4), 1);
        due("7: lost", x.state(5), 2);
        due("7: class", x.state(7), -2);
        due("7: class", x.state(Integer.MIN_VALUE), -2);
        due("8: itself", x.order(3, 0), 3);
        due("8: first", x.order(3, 1), 1);
        due("8: last", x.order(3, 2), 0);
        due("8: not so many", x.order(3, 3), -1);
        due("8: refused", x.order(4, 0), -1);
        due("8: lost", x.order(5, 0), -1);
        due("8: place", x.order(5, -1), -3);
        due("8: class", x.order(7, -1), -2);
        due("9: itself", x.place(3, 3), 0);
        due("9: place", x.place(3, 0), 2);
        due("9: not there", x.place(3, 2), -1);
        due("9: no order", x.place(4, 4), -1);
        due("9: class", x.place(7, 0), -2);
        due("9: class", x.place(0, 7), -2);
        due("9: class", x.place(0, -1), -2);
        due("10: above itself", x.above(0), 1);
        due("10: above", x.above(2), 7);
        due("10: above a lost one", x.above(5), 63);
        due("10: class", x.above(7), -2);
        due("11: below", x.below(0), 1 | 4 | 8 | 16 | 32 | 64);
        due("11: below", x.below(1), 2 | 4 | 8 | 16 | 32);
        due("11: below itself", x.below(6), 64);
        due("11: class", x.below(-1), -2);
    }

    private static void merges() {
        // The example that all texts on this merge give: O=0 A=1 .. F=6.
        OrderMerge x = Check.told("house mood 0;class;class 0;class 0;class 0;class 1 2;class 1 3;class 4 3 5;");
        orderIs(x, 4, 4, 1, 2, 0);
        orderIs(x, 5, 5, 1, 3, 0);
        due("7: the row of the parents stands against it", x.state(6), 1);
        OrderMerge y = Check.told("house mood 0;class;class 0;class 0;class 0;class 0;class 0;"
            + "class 1 2 3;class 4 2 5;class 4 1;class 6 7 8;");
        orderIs(y, 6, 6, 1, 2, 3, 0);
        orderIs(y, 7, 7, 4, 2, 5, 0);
        orderIs(y, 8, 8, 4, 1, 0);
        orderIs(y, 9, 9, 6, 7, 8, 4, 1, 2, 3, 5, 0);
        OrderMerge z = Check.told("house mood 0;class;class 0;class 0 1;class 1 0;");
        due("7: a parent ahead of its own heir", z.state(2), 1);
        orderIs(z, 3, 3, 1, 0);
    }

    private static void orderIs(OrderMerge x, int c, int... row) {
        due("7: state(" + c + ")", x.state(c), 0);
        for (int i = 0; i < row.length; i++) {
            due("8: order(" + c + ", " + i + ")", x.order(c, i), row[i]);
        }
        due("8: the end of order(" + c + ")", x.order(c, row.length), -1);
    }
}
