import java.util.List;

/**
 * Promises 2 to 4 and the terms of a text, sentence by sentence: each case that the document names
 * for feed(), house(), fault(), the lines, the tokens and the faults.
 */
public final class TextEdgesTest {
    private static final String TEN = "house mood 0;class;class;class;class;class;class;class;class;class;class";
    private static final String FIVE = "house mood 0;class;class;class;class;class;class 3 2 1 0 ";
    private static final Check CHECK = new Check();

    public static void main(String[] args) {
        theTape();
        theTextFillsTheTape();
        howManyBytesAreRead();
        whatIsToldOfTheLatestHouse();
        aGoodTextBeginsAnew();
        allStaysWithAFault();
        moodsBounds();
        classes();
        parentsBounds();
        methodsBounds();
        laterOnesStrike();
        tokensGoOn();
        blanksAndSigns();
        digits();
        theEnd();
        houseFirstAndOnce();
        wordsOfTheOtherLaw();
        ofOneTokenTheLeastKind();
        theFirstAlongTheText();
        sixWithinOneAnother();
        besideOneAnother();
        CHECK.end();
    }

    private static void due(String what, long got, long want) {
        CHECK.due(what, got, want);
    }

    private static void good(String text, int lines) {
        OrderMerge x = new OrderMerge();
        due("3: " + text, Check.tell(x, text), lines);
        due("4: " + text, x.fault(0), 0);
        due("4: its place: " + text, x.fault(1), -1);
        due("49: LINES: " + text, x.count(8), lines);
        due("3: THE TAPE is empty then: " + text, x.count(7), 0);
    }

    /** The sign | stands where the fault's token begins. */
    private static void bad(String marked, int kind) {
        int place = marked.indexOf('|');
        badAt(marked.substring(0, place) + marked.substring(place + 1), kind, place);
    }

    private static void badAt(String text, int kind, int place) {
        OrderMerge x = new OrderMerge();
        due("3: " + text, Check.tell(x, text), -30 - kind);
        due("4: kind: " + text, x.fault(0), kind);
        due("4: place: " + text, x.fault(1), place);
        due("3: THE TAPE is empty then: " + text, x.count(7), 0);
        due("3: no house: " + text, x.count(8), 0);
    }

    private static int feedBlanks(OrderMerge x) {
        return x.feed(0x20202020, 0x20202020, 0x20202020, 0x20202020, 0x20202020);
    }

    /** "Twenty bytes come behind those on THE TAPE ..: how many it has. -5: more than 900." */
    private static void theTape() {
        OrderMerge x = new OrderMerge();
        due("2: empty at first", x.count(7), 0);
        // house mood 5;class;class 0;says:1;
        due("2: twenty", x.feed(0x686f7573, 0x65206d6f, 0x6f642035, 0x3b636c61, 0x73733b63), 20);
        due("2: behind those", x.feed(0x6c617373, 0x20303b73, 0x6179733a, 0x313b2020, 0x20202020), 40);
        due("49: bytes on THE TAPE", x.count(7), 40);
        due("2: the highest of each int first", x.house(34), 4);
        due("2: the mood", x.count(3), 5);
        due("2: the parent", x.parent(1, 0), 0);
        for (int i = 1; i <= 45; i++) {
            due("2: 900 is not more than 900", feedBlanks(x), 20 * i);
        }
        for (int i = 0; i < 3; i++) {
            due("2: more than 900", feedBlanks(x), -5);
            due("2: as it was", x.count(7), 900);
        }
        due("2: bytes above 127", new OrderMerge().feed(-1, -1, Integer.MIN_VALUE, 0, 0), 20);
    }

    /** "A TEXT of at most 900 bytes." */
    private static void theTextFillsTheTape() {
        String begin = "house mood 0;class;method 0 in 0 ends;says:1";
        String law = begin + "+1".repeat((899 - begin.length()) / 2) + ";";
        String text = law + " ".repeat(900 - law.length());
        OrderMerge x = new OrderMerge();
        due("3: 900 bytes", Check.tell(x, text), 4);
        due("29: each + of 900 bytes", x.call(0, 0), 1 + (899 - begin.length()) / 2);
        good(text.substring(0, 899) + "\n", 4);
        badAt(text.substring(0, 899) + "?", 1, 899);
        badAt(text.substring(0, 899) + "x", 2, 899);
        badAt(" ".repeat(900), 2, 900);
        badAt(" ".repeat(899) + "h", 2, 899);
        badAt("a".repeat(900), 2, 0);
        badAt("1".repeat(900), 1, 0);
        good(" ".repeat(887) + "house mood 9;", 1);
        badAt(" ".repeat(888) + "house mood 9", 2, 900);
        String line = "method 0 in 9 ends;";
        int more = (900 - TEN.length() - 1) / line.length();
        good(TEN + ";" + line.repeat(more), 11 + more);
    }

    /** "The first n bytes of THE TAPE .. -3: n is below 0 or above what there is (THE TAPE stays)." */
    private static void howManyBytesAreRead() {
        String text = "house mood 1;class;class 0;class 1;class 2;";
        for (int n = 0; n <= 60; n++) {
            OrderMerge x = new OrderMerge();
            Check.feed(x, text);
            boolean ends = n >= 13 && n < text.length() && text.charAt(n - 1) == ';' || n >= text.length();
            int lines = 0;
            for (int i = 0; i < Math.min(n, text.length()); i++) {
                lines += text.charAt(i) == ';' ? 1 : 0;
            }
            due("3: house(" + n + ")", x.house(n) > 0 ? 1 : 0, ends ? 1 : 0);
            due("3: LINES of house(" + n + ")", x.count(8), ends ? lines : 0);
            due("3: THE TAPE is empty behind house(" + n + ")", x.count(7), 0);
        }
        OrderMerge x = new OrderMerge();
        due("3: above what there is: nothing", x.house(1), -3);
        due("4: not read", x.fault(1), -1);
        Check.feed(x, text);
        int[] wrong = {-1, 61, 900, 901, Integer.MIN_VALUE, Integer.MAX_VALUE};
        for (int n : wrong) {
            due("3: house(" + n + ")", x.house(n), -3);
            due("3: THE TAPE stays", x.count(7), 60);
        }
        due("3: its bytes stay", x.house(60), 5);
        due("3: an empty text", x.house(0), -32);
        due("4: an empty text", x.fault(0), 2);
        due("4: the end: the text's length", x.fault(1), 0);
        due("3: all stays", x.count(8), 5);
    }

    /** "Of the latest house() that was read: its FAULT (0), its place (NONE). NONE for others." */
    private static void whatIsToldOfTheLatestHouse() {
        OrderMerge x = new OrderMerge();
        due("4: none was read: no fault", x.fault(0), 0);
        due("4: none was read: no place", x.fault(1), -1);
        Check.tell(x, "house mood 10;");
        due("4: a fault", x.fault(0), 3);
        due("4: its place", x.fault(1), 11);
        x.house(-1);
        x.house(1);
        due("4: those not read tell nothing", x.fault(0), 3);
        due("4: those not read tell nothing", x.fault(1), 11);
        Check.tell(x, "house mood 1;");
        due("4: the latest has none", x.fault(0), 0);
        due("4: the latest has none", x.fault(1), -1);
        x.image(0);
        Check.tell(x, "?");
        due("4: the first byte", x.fault(1), 0);
        x.restore(0);
        x.mood(3);
        x.undo(1);
        due("4: no other call changes it", x.fault(0), 1);
        due("4: no other call changes it", x.fault(1), 0);
        int[] others = {-1, 2, 3, Integer.MIN_VALUE, Integer.MAX_VALUE};
        for (int what : others) {
            due("4: NONE for others", x.fault(what), -1);
        }
    }

    /** "The first n bytes .. are THE HOUSE, nothing can be UNDONE." */
    private static void aGoodTextBeginsAnew() {
        OrderMerge x = Twins.rich();
        due("17: ten can be undone", x.count(6), 10);
        due("3: a new house", x.house(40), 3);
        due("3: nothing can be undone", x.count(6), 0);
        due("3: nothing can be undone", x.undo(1), -3);
        x.give(1, 0);
        x.mood(3);
        due("3: a new house", Check.tell(x, "house mood 4;class;class;class 1;"), 4);
        due("3: nothing can be undone", x.count(6), 0);
        due("3: nothing can be undone", x.undo(1), -3);
        int[] counts = {3, 1, 0, 4, 7, 0, 0, 0, 4};
        for (int what = 0; what < counts.length; what++) {
            due("3: nothing of the old house, count(" + what + ")", x.count(what), counts[what]);
        }
        x.define(1, 1, 0);
        due("3: no law of the old house", x.call(2, 1), 11);
        due("3: trays stay", x.write(1, 7, 9), 9);
        due("3: images stay", x.restore(0), 0);
        due("3: images stay", x.count(3), 6);
        OrderMerge y = Twins.rich();
        y.house(40);
        due("3: the same house again", Check.tell(y, "house mood 8;class;class 0;"), 3);
        due("3: an empty one", Check.tell(y, "house mood 0;"), 1);
        due("3: no class", y.count(0), 0);
        due("3: no class", y.state(0), -2);
    }

    private static OrderMerge withEmptyTape(String text) {
        OrderMerge x = Twins.rich();
        x.house(0);
        Check.feed(x, text);
        return x;
    }

    /** "All stays with a FAULT", but THE TAPE, which is empty then. */
    private static void allStaysWithAFault() {
        String[] texts = {"?", "", "house mood 5;class;method 0 in 0 ends;says:1;seen:1=2;house",
            "house mood 11;", TEN + ";class;", "house mood 5;class;class 0;says:2;seen:2=2;method 1 in 7 ends;"};
        int[] kinds = {1, 2, 2, 3, 4, 3};
        for (int t = 0; t < texts.length; t++) {
            for (int page = 0; page < Twins.FAULT_PAGE; page++) {
                OrderMerge x = withEmptyTape(texts[t]);
                OrderMerge y = withEmptyTape("");
                due("3: " + texts[t], x.house(texts[t].length()), -30 - kinds[t]);
                due("4: " + texts[t], x.fault(0), kinds[t]);
                List<Long> mine = Twins.page(x, page);
                List<Long> its = Twins.page(y, page);
                due("3: as many answers", mine.size(), its.size());
                for (int i = 0; i < mine.size(); i++) {
                    due("3: all stays with a fault: " + texts[t] + ", page " + page, mine.get(i), its.get(i));
                }
            }
        }
    }

    /** "house: the MOOD, 0 to 9." */
    private static void moodsBounds() {
        for (int n = 0; n < 1000; n++) {
            OrderMerge x = new OrderMerge();
            due("3: mood " + n, Check.tell(x, "house mood " + n + ";"), n <= 9 ? 1 : -33);
            due("49: mood " + n, x.count(3), n <= 9 ? n : 0);
            due("4: mood " + n, x.fault(1), n <= 9 ? -1 : 11);
        }
        good("house mood 00;", 1);
        good("house mood 009;", 1);
        bad("house mood |010;", 3);
        bad("house mood |0009;", 1);
    }

    /** "class: .. numbered from 0 on, 10 at most", "4 the first TOKEN of an 11th class". */
    private static void classes() {
        for (int n = 0; n <= 10; n++) {
            OrderMerge x = new OrderMerge();
            due("3: " + n + " classes", Check.tell(x, "house mood 0;" + "class;".repeat(n)), n + 1);
            due("49: " + n + " classes", x.count(0), n);
            due("7: the last of " + n, x.state(n - 1), n > 0 ? 0 : -2);
            due("7: behind the last of " + n, x.state(n), -2);
        }
        bad(TEN + ";|class;", 4);
        bad(TEN + ";|class", 4);
        bad(TEN + ";|class 0 0 99;", 4);
        bad(TEN + ";|class?", 4);
        bad(TEN + ";says:1;seen:1=1;method 0 in 9 ends;|class;", 4);
        good(TEN + ";says:1;seen:1=1;method 0 in 9 ends;", 14);
        bad(TEN + " |10;", 3);
        good(TEN + " 8;", 11);
    }

    /** "its PARENTS, the first ahead: unlike CLASSES told ahead, 4 at most." */
    private static void parentsBounds() {
        for (int c = 0; c <= 9; c++) {
            String text = "house mood 0;" + "class;".repeat(c) + "class ";
            for (int p = 0; p <= 12; p++) {
                if (p < c) {
                    good(text + p + ";", c + 2);
                } else {
                    badAt(text + p + ";", 3, text.length());
                }
            }
            badAt(text + "999;", 3, text.length());
        }
        String[] rows = {"", " 3", " 3 0", " 3 0 2", " 3 0 2 1"};
        int[] told = {3, 0, 2, 1};
        for (int n = 0; n <= 4; n++) {
            OrderMerge x = Check.told("house mood 0;class;class;class;class;class;class" + rows[n] + ";");
            for (int i = 0; i <= 4; i++) {
                due("5: the first ahead", x.parent(5, i), i < n ? told[i] : -1);
            }
        }
        bad("house mood 0;class;class;class;class 0 1 |1;", 3);
        bad("house mood 0;class;class;class;class 0 1 |0;", 3);
        bad("house mood 0;class;class;class;class 0 1 2 |2;", 3);
        bad("house mood 0;class;class;class;class 2 |002;", 3);
        // Told there already, not elsewhere.
        good("house mood 0;class;class 0;class 0;class 0;", 5);
        bad(FIVE + "|4;", 4);
        bad(FIVE + "|4 5;", 4);
        bad(FIVE + "|4", 4);
        good(FIVE + ";", 7);
    }

    /** "a METHOD, 0 to 7, the CLASS (told ahead) that DEFINES it." */
    private static void methodsBounds() {
        for (int n = 0; n < 1000; n++) {
            OrderMerge x = new OrderMerge();
            int answer = Check.tell(x, "house mood 0;class;method " + n + " in 0 ends;");
            due("3: method " + n, answer, n <= 7 ? 3 : -33);
            due("4: method " + n, x.fault(1), n <= 7 ? -1 : 26);
            due("6: method " + n, x.defines(0, n), n <= 7 ? 1 : -2);
        }
        for (int classes = 0; classes <= 10; classes++) {
            String text = "house mood 0;" + "class;".repeat(classes) + "method 3 in ";
            for (int c = 0; c <= 11; c++) {
                if (c < classes) {
                    good(text + c + " next;", classes + 2);
                } else {
                    badAt(text + c + " next;", 3, text.length());
                }
            }
        }
        // Told ahead, not behind.
        bad("house mood 0;class;method 0 in |1 ends;class;", 3);
        bad("house mood 0;method 0 in |0 ends;class;", 3);
        bad("house mood 0;class;method 0 in 0 |;", 2);
        bad("house mood 0;class;method 0 in 0 |both;", 2);
        bad("house mood 0;class;method 0 in 0 ends |ends;", 2);
    }

    /** "(a later one of both strikes). Later ones of says, seen strike." */
    private static void laterOnesStrike() {
        String text = "house mood 0;class;method 2 in 0 ends;method 2 in 0 next;";
        OrderMerge x = Check.told(text);
        due("6: next strikes", x.defines(0, 2), 2);
        due("49: one definition", x.count(2), 1);
        x = Check.told(text + "method 2 in 0 ends;");
        due("6: ends strikes", x.defines(0, 2), 1);
        due("49: LINES that were struck count", x.count(8), 5);
        x = Check.told(text + "says:1;seen:1=2;says:2;seen:1=1;says:3;");
        due("29: the last law of saying, of seeing", x.call(0, 2), 3);
        x = Check.told(text + "seen:1=1;seen:1=2;");
        due("29: the last law of seeing", x.call(0, 2), -99000001);
        // As many laws as there can be.
        x = Check.told("house mood 0;class;method 0 in 0 ends;" + "says:1;".repeat(122) + "says:2;");
        due("29: the last of many laws of saying", x.call(0, 0), 2);
        x = Check.told("house mood 0;class;method 0 in 0 ends;" + "seen:1=1;".repeat(94) + "seen:1=2;");
        due("29: the last of many laws of seeing", x.call(0, 0), -99000001);
        // A law told ahead of the classes holds, too.
        x = Check.told("house mood 0;says:5;class;method 2 in 0 ends;");
        due("29: a law told first", x.call(0, 2), 5);
    }

    /** "TOKENS, as long as they go on, between them blanks": words and numbers take all they can. */
    private static void tokensGoOn() {
        good("house mood0;class;class0;method0in1ends;", 4);
        good("house mood 0;says:if1=1then2else3end;seen:not1=1or2=2and3=3;", 3);
        bad("|housemood 0;", 2);
        bad("house |moodx 0;", 2);
        bad("house mood 0;|classes;", 2);
        bad("house mood 0;class;method 0 in 0 |endsnext;", 2);
        bad("house mood 0;seen:|notnot 1=1;", 2);
        bad("house mood 0;seen:1=1 |andnot 1=1;", 2);
        good("house mood 0;class;class 00;", 3);
        bad("house mood 0;class;class 0 |0;", 3);
    }

    /** "Between them blanks (10, 32) ..", "1 no TOKEN begins so": every byte there is. */
    private static void blanksAndSigns() {
        for (int b = 0; b < 256; b++) {
            char sign = (char) b;
            String text = "house mood 0" + sign + ";";
            boolean blank = b == 10 || b == 32;
            boolean digit = sign >= '0' && sign <= '9';
            boolean letter = sign >= 'a' && sign <= 'z';
            boolean token = letter || ":+-*()[]=<>".indexOf(sign) >= 0;
            if (blank || digit) {
                good(text, 1);
            } else if (sign == ';') {
                badAt(text, 2, 13);
            } else {
                badAt(text, token ? 2 : 1, 12);
            }
            if (!letter && !digit && !blank && !token && sign != ';') {
                badAt(sign + "house mood 0;", 1, 0);
                badAt("house mood 0;" + sign, 1, 13);
                badAt("house mood 0;says:1" + sign, 1, 19);
            }
        }
        // A word ends where a sign that is no small letter begins, but it comes first.
        bad("|houSe mood 0;", 2);
        bad("house|" + (char) 0 + "mood 0;", 1);
        bad("house|_mood 0;", 1);
        bad("house|\tmood 0;", 1);
        bad("house mood 0;|\r\n", 1);
    }

    /** "N (1 to 3 digits)", "4 digits and more: at their first". */
    private static void digits() {
        String[] fits = {"0", "7", "07", "007", "999", "000"};
        for (String n : fits) {
            good("house mood 0;says:" + n + ";", 2);
        }
        for (int n = 4; n <= 12; n++) {
            String many = "0".repeat(n);
            badAt("house mood " + many + ";", 1, 11);
            badAt("house mood 0;says:" + many + ";", 1, 18);
            badAt("house mood 0;class " + many + ";", 1, 19);
            badAt("house mood 0;class;method " + many + " in 0 ends;", 1, 26);
            badAt("house mood 0;class;method 0 in " + many + " ends;", 1, 31);
            badAt(many, 1, 0);
            badAt("house mood 0;" + many, 1, 13);
        }
        good("house mood 0;class;class;class 1 0;", 4);
        bad("house mood 0;class;class;class |10;", 3);
        bad("house mood 0;says:999 |999;", 2);
    }

    /** "2 it can't stand there (the end: the text's length ..)." */
    private static void theEnd() {
        String[] cut = {"", "house", "house mood", "house mood 0", "house mood 0;class", "house mood 0;class;class 0",
            "house mood 0;method", "house mood 0;method 0", "house mood 0;method 0 in", "house mood 0;class;method 0 in 0",
            "house mood 0;class;method 0 in 0 ends", "house mood 0;class;method 0 in 0 next", "house mood 0;says",
            "house mood 0;says:", "house mood 0;says:1", "house mood 0;says:1+", "house mood 0;says:1-",
            "house mood 0;says:1*", "house mood 0;says:(", "house mood 0;says:(1", "house mood 0;says:(1)",
            "house mood 0;says:if", "house mood 0;says:if 1", "house mood 0;says:if 1=", "house mood 0;says:if 1=1",
            "house mood 0;says:if 1=1 then", "house mood 0;says:if 1=1 then 1", "house mood 0;says:if 1=1 then 1 else",
            "house mood 0;says:if 1=1 then 1 else 2", "house mood 0;says:if 1=1 then 1 else 2 end", "house mood 0;seen",
            "house mood 0;seen:", "house mood 0;seen:1", "house mood 0;seen:1=", "house mood 0;seen:1<1",
            "house mood 0;seen:not", "house mood 0;seen:[", "house mood 0;seen:[1>1", "house mood 0;seen:[1=1]",
            "house mood 0;seen:1=1 and", "house mood 0;seen:1=1 or", "house mood 0;seen:(", "house mood 0;says:next",
            "house mood 0;says:((((((", "house mood 0;seen:not not not not not not"};
        for (String text : cut) {
            for (String blanks : new String[] {"", " ", "\n", "  \n "}) {
                badAt(text + blanks, 2, text.length() + blanks.length());
            }
        }
        good("house mood 0;", 1);
        good("house mood 0; \n ", 1);
    }

    /** "house must be told first, and once." */
    private static void houseFirstAndOnce() {
        for (String line : new String[] {"class;", "method 0 in 0 ends;", "says:1;", "seen:1=1;", ";", "mood 0;"}) {
            badAt(line, 2, 0);
            badAt("  " + line + "house mood 0;", 2, 2);
        }
        bad("house mood 0;|house mood 0;", 2);
        bad("house mood 0;class;|house", 2);
        bad("house mood 0 |house;", 2);
        bad("house |house mood 0;", 2);
        bad("house mood 0;|mood 1;", 2);
    }

    /** "In says next, depth, too": in seen they are words of the other law. */
    private static void wordsOfTheOtherLaw() {
        good("house mood 0;says:method+in+for+mood+next+depth;", 2);
        good("house mood 0;says:if next=depth then next else depth end;", 2);
        good("house mood 0;seen:method+in+for+mood=0;", 2);
        for (String word : new String[] {"next", "depth"}) {
            bad("house mood 0;seen:|" + word + "=1;", 2);
            bad("house mood 0;seen:1=|" + word + ";", 2);
            bad("house mood 0;seen:1=2*|" + word + ";", 2);
            bad("house mood 0;seen:not [(1+|" + word + ")=1];", 2);
            bad("house mood 0;seen:if 1=|" + word + " then 1 else 2 end=1;", 2);
            // The law before it doesn't lend its words.
            bad("house mood 0;says:" + word + ";seen:1=|" + word + ";", 2);
            good("house mood 0;seen:1=1;says:" + word + ";", 3);
        }
        for (String word : new String[] {"says", "seen", "class", "house", "ends", "then", "and", "or", "x"}) {
            bad("house mood 0;says:|" + word + ";", 2);
            bad("house mood 0;seen:|" + word + ";", 2);
        }
        bad("house mood 0;says:1 |and 1;", 2);
        bad("house mood 0;says:1|<1;", 2);
        bad("house mood 0;says:|not 1;", 2);
        bad("house mood 0;says:(|[1=1]);", 2);
        bad("house mood 0;seen:(1|=1);", 2);
        bad("house mood 0;seen:[1=1]|=1;", 2);
        bad("house mood 0;seen:[1=1]|+1;", 2);
        bad("house mood 0;seen:1=1|<1;", 2);
        bad("house mood 0;seen:1+|not 1=1;", 2);
        bad("house mood 0;seen:1+|[1]=1;", 2);
    }

    /** "Of one TOKEN the least kind." */
    private static void ofOneTokenTheLeastKind() {
        // 1 ahead of 2, 3 and 4.
        bad("house |0000 0;", 1);
        bad("house mood |1000;", 1);
        bad(FIVE + "|4444;", 1);
        bad(FIVE + "|?;", 1);
        // 2 ahead of 3 and 4.
        bad("house |10;", 2);
        bad("house mood 0 |10;", 2);
        bad("house mood 0;class;method 0 |99 in 0 ends;", 2);
        bad("house mood 0;says:((((((|[1=1", 2);
        bad("house mood 0;says:((((((|not 1=1", 2);
        bad("house mood 0;says:((((((1 |(", 2);
        bad("house mood 0;says:((((((1 |if", 2);
        bad("house mood 0;seen:[[[[[[1=1 |[", 2);
        bad("house mood 0;seen:[[[[[[1=1 |not", 2);
        bad(TEN + " |class;", 2);
        // 3 ahead of 4: "a PARENT told already there; a 5th one, too, if it is so".
        for (int p : new int[] {0, 1, 2, 3, 5, 6, 9, 10, 999}) {
            bad(FIVE + "|" + p + ";", 3);
        }
        bad(FIVE + "|003;", 3);
    }

    /** "FAULTS, the first along the text": be those behind it of a lesser kind. */
    private static void theFirstAlongTheText() {
        bad("house |mod ?", 2);
        bad("house mood |10 ?", 3);
        bad(FIVE + "|4 ?", 4);
        bad(FIVE + "|9 4444;", 3);
        bad(TEN + ";|class 99 ? house", 4);
        bad("house mood 0;says:((((((|(?", 4);
        bad("house mood 0;class;method |8 in 9 end?", 3);
        bad("house mood |99 99;", 3);
        bad("house mood 0;|?class;class 1;", 1);
    }

    private static final String[] OPENERS = {"not ", "[", "(", "if "};

    /** "At most six of not [ ( if within one another", "4 .. a seventh of not [ ( if". */
    private static void sixWithinOneAnother() {
        for (int code = 0; code < 1 << 14; code++) {
            int[] row = new int[7];
            for (int i = 0; i < 7; i++) {
                row[i] = code >> 2 * i & 3;
            }
            if (canNest(row)) {
                String open = opened(row, 7);
                badAt("house mood 0;seen:" + open + "1", 4, 18 + opened(row, 6).length());
                if (row[6] == 0) {
                    OrderMerge x = new OrderMerge();
                    String text = "house mood 0;seen:" + truth(row, 0) + ";";
                    due("3: six: " + text, Check.tell(x, text), 2);
                }
            }
        }
        bad("house mood 0;says:if 1=1 then ((((( 1 ))))) else (((((|( 1", 4);
        bad("house mood 0;says:if 1=1 then (((((|( 1", 4);
        bad("house mood 0;says:1+2*((((((|(1", 4);
        bad("house mood 0;says:((((((|if 1=1 then 1 else 1 end", 4);
        bad("house mood 0;seen:1=1 and 2=((((((|(1", 4);
    }

    /** Whether these can stand within one another: within ( only ( and if. */
    private static boolean canNest(int[] row) {
        for (int i = 1; i < row.length; i++) {
            if (row[i - 1] == 2 && row[i] < 2) {
                return false;
            }
        }
        return true;
    }

    private static String opened(int[] row, int n) {
        StringBuilder text = new StringBuilder();
        for (int i = 0; i < n; i++) {
            text.append(OPENERS[row[i]]);
        }
        return text.toString();
    }

    /** The first six of a row, closed. */
    private static String truth(int[] row, int i) {
        if (i == 6) {
            return "1=1";
        }
        switch (row[i]) {
            case 0:
                return "not " + truth(row, i + 1);
            case 1:
                return "[" + truth(row, i + 1) + "]";
            default:
                return sum(row, i) + "=1";
        }
    }

    private static String sum(int[] row, int i) {
        if (i == 6) {
            return "1";
        }
        return row[i] == 2 ? "(" + sum(row, i + 1) + ")" : "if " + truth(row, i + 1) + " then 1 else 2 end";
    }

    /** Those beside one another are not within one another, and each law begins anew. */
    private static void besideOneAnother() {
        String six = "((((((1))))))";
        good("house mood 0;says:" + six + "+" + six + "*" + six + ";says:" + six + ";", 3);
        good("house mood 0;says:" + six + ";seen:" + six + "=" + six + " and " + six + "<" + six + ";", 3);
        String five = "(((((1)))))";
        good("house mood 0;says:if " + five + "=" + five + " then " + five + " else " + five + " end;", 2);
        good("house mood 0;seen:not not not not not not 1=1 and not not not not not not 1=1;", 2);
        good("house mood 0;seen:not not not not not not 1=1 or ((((((1))))))=1;", 2);
        bad("house mood 0;seen:not not not not not not 1=1 or not not not not not not |not 1=1;", 4);
        good("house mood 0;seen:not not not not not [1=1 and 2=2 or 3=3];", 2);
        bad("house mood 0;seen:not not not not not [1=1 and |not 2=2];", 4);
    }
}
