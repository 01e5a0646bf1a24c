import java.util.ArrayDeque;
import java.util.ArrayList;
import java.util.Arrays;
import java.util.Deque;
import java.util.HashSet;
import java.util.List;
import java.util.Random;
import java.util.Set;

/** Promises 3 and 4: texts spoilt by draws, their faults compared with those of a second reader. */
public final class TextTest {
    private static final Check CHECK = new Check();
    private static final String[] VOCABULARY = {"house", "mood", "class", "method", "in", "ends", "next", "says", "seen",
        "if", "then", "else", "end", "for", "depth", "or", "and", "not", ";", ":", "+", "-", "*", "(", ")", "[", "]", "=",
        "<", ">", "0", "1", "2", "7", "8", "9", "10", "007", "999", "1000", "0000", "trait", "x", "?", "A", "in0", "0in",
        "class;", "class 0;", "if 1=1 then 1 else 2 end", "not not", "((", "[[", "\n", "\t"};
    private static final String[] GOOD = {
        "house mood 3;class;class;class 0 1;class 1 0;method 0 in 0 ends;method 3 in 2 next;says:1+2*(3-next);",
        "house mood 0;class;class 0;seen:not[in=1 or mood>4]and for<method;says:if in=0 then mood*100 else depth end;",
        "house mood 9;class;class;class;class;class;class;class 0 1 2 3;class;class;class 8 7 6 5;says:((((1))));",
        "house mood 1;seen:not not[not[1=if not 2=2 then 3 else 4 end]];says:if 1=1 and 2=2 or 3=3 then 1 else(2)end*3;",
        "house mood 2;class;class;class;class;class 0 1 2;method 7 in 3 next;says:next;seen:(1+in)*2>mood-(for*(in));"};

    private final String text;
    private final Deque<String> due = new ArrayDeque<>();
    private final Set<Integer> kin = new HashSet<>();
    private int classes;
    private int nested;
    private boolean says;
    private int kind;
    private int place = -1;
    private int lines;

    private TextTest(String text) {
        this.text = text;
    }

    public static void main(String[] args) {
        int seed = args.length > 0 ? Integer.parseInt(args[0]) : 1;
        int times = args.length > 1 ? Integer.parseInt(args[1]) : 60000;
        Random random = new Random(seed);
        int[] kinds = new int[5];
        OrderMerge x = new OrderMerge();
        for (int i = 0; i < times; i++) {
            String text = GOOD[random.nextInt(GOOD.length)];
            for (int j = random.nextInt(4); j >= 0; j--) {
                text = spoil(text, random);
            }
            TextTest second = new TextTest(text);
            second.read();
            kinds[second.kind]++;
            int want = second.kind == 0 ? second.lines : -30 - second.kind;
            CHECK.due("3: " + text, Check.tell(x, text), want);
            CHECK.due("4: kind: " + text, x.fault(0), second.kind);
            CHECK.due("4: place: " + text, x.fault(1), second.place);
        }
        for (int k = 0; k < 5; k++) {
            CHECK.due("texts with fault " + k, kinds[k] > times / 100 ? 1 : 0, 1);
        }
        CHECK.end();
    }

    private static String spoil(String text, Random random) {
        int from = random.nextInt(text.length() + 1);
        String word = VOCABULARY[random.nextInt(VOCABULARY.length)];
        if (random.nextInt(3) == 0) {
            word = " " + word + " ";
        }
        int to = from;
        switch (random.nextInt(4)) {
            case 0:
                return text.substring(0, from) + word + text.substring(from);
            case 1:
                to = Math.min(text.length(), from + 1 + random.nextInt(3));
                return text.substring(0, from) + text.substring(to);
            case 2:
                to = Math.min(text.length(), from + 1 + random.nextInt(5));
                return text.substring(0, from) + word + text.substring(to);
            default:
                // The other kinds want more of the same.
                String[] more = {"class;", "class;class;class;class;class;", "class 0 1 2 3 4;", "class 3 2 1 0 3;"};
                int line = text.indexOf(';', from);
                if (line < 0) {
                    return random.nextInt(4) == 0 ? text.substring(0, from) : text;
                }
                return text.substring(0, line + 1) + more[random.nextInt(more.length)] + text.substring(line + 1);
        }
    }

    // ---- the second reader: a stack of what is due, tokens against its top

    private void push(String symbols) {
        List<String> all = new ArrayList<>(Arrays.asList(symbols.split(" ")));
        for (int i = all.size() - 1; i >= 0; i--) {
            due.push(all.get(i));
        }
    }

    private void read() {
        push("house mood MOOD ; LINES");
        int at = 0;
        while (kind == 0) {
            while (at < text.length() && " \n".indexOf(text.charAt(at)) >= 0) {
                at++;
            }
            int to = at;
            if (at < text.length()) {
                to++;
                for (String set : new String[] {"abcdefghijklmnopqrstuvwxyz", "0123456789"}) {
                    if (set.indexOf(text.charAt(at)) >= 0) {
                        while (to < text.length() && set.indexOf(text.charAt(to)) >= 0) {
                            to++;
                        }
                    }
                }
            }
            String token = text.substring(at, to);
            kind = token.isEmpty() || token.matches("[a-z]+|[0-9]{1,3}|[;:+*()=<>-]|\\[|\\]") ? against(token) : 1;
            if (kind != 0) {
                place = at;
            } else if (token.isEmpty()) {
                return;
            }
            at = to;
        }
    }

    private static boolean isNumber(String token) {
        return !token.isEmpty() && Character.isDigit(token.charAt(0));
    }

    private static boolean is(String token, String of) {
        return Arrays.asList(of.split(" ")).contains(token);
    }

    /** Unfolds what is due till the token meets it; answers the fault's kind. */
    private int against(String token) {
        while (true) {
            if (due.isEmpty()) {
                return token.isEmpty() ? 0 : 2;
            }
            String top = due.pop();
            if (top.equals(token)) {
                lines += top.equals(";") ? 1 : 0;
                return 0;
            }
            int met = number(top, token);
            if (met >= 0) {
                return met;
            }
            int opened = unfold(top, token);
            if (opened >= 0) {
                return opened;
            }
        }
    }

    /** What bounds a number: -1 if no number is due here. */
    private int number(String top, String token) {
        if (!is(top, "MOOD METHOD OWNER ANY")) {
            return -1;
        }
        if (!isNumber(token)) {
            return 2;
        }
        int n = Integer.parseInt(token);
        int bound = top.equals("MOOD") ? 10 : top.equals("METHOD") ? 8 : top.equals("OWNER") ? classes : 1000;
        return n < bound ? 0 : 3;
    }

    /** -1: go on with what is due now; else the token is passed (0) or its fault. */
    private int unfold(String top, String token) {
        switch (top) {
            case "LINES":
                return unfoldLine(token);
            case "PARENTS":
                return unfoldParents(token);
            case "WAY":
                return is(token, "ends next") ? 0 : 2;
            case "SUM":
                push("TERM SUMS");
                return -1;
            case "SUMS":
                return is(token, "+ -") ? more("TERM SUMS") : -1;
            case "TERM":
                push("ATOM TERMS");
                return -1;
            case "TERMS":
                return token.equals("*") ? more("ATOM TERMS") : -1;
            case "ATOM":
                return unfoldAtom(token);
            case "TRUTH":
                push("BOTH TRUTHS");
                return -1;
            case "TRUTHS":
                return token.equals("or") ? more("BOTH TRUTHS") : -1;
            case "BOTH":
                push("UNIT BOTHS");
                return -1;
            case "BOTHS":
                return token.equals("and") ? more("UNIT BOTHS") : -1;
            case "UNIT":
                return unfoldUnit(token);
            case "COMPARED":
                return is(token, "= < >") ? 0 : 2;
            case "OUT":
                nested--;
                return -1;
            default:
                return 2;
        }
    }

    private int more(String symbols) {
        push(symbols);
        return 0;
    }

    private int unfoldLine(String token) {
        if (token.isEmpty()) {
            return -1;
        }
        switch (token) {
            case "class":
                kin.clear();
                return classes == 10 ? 4 : more("PARENTS ; LINES");
            case "method":
                return more("METHOD in OWNER WAY ; LINES");
            case "says":
            case "seen":
                says = token.equals("says");
                nested = 0;
                return more(says ? ": SUM ; LINES" : ": TRUTH ; LINES");
            default:
                return 2;
        }
    }

    private int unfoldParents(String token) {
        if (!isNumber(token)) {
            classes++;
            return -1;
        }
        int p = Integer.parseInt(token);
        if (p >= classes || kin.contains(p)) {
            return 3;
        }
        kin.add(p);
        return kin.size() > 4 ? 4 : more("PARENTS");
    }

    private int nest(String symbols) {
        nested++;
        return nested > 6 ? 4 : more(symbols);
    }

    private int unfoldAtom(String token) {
        if (token.equals("(")) {
            return nest("SUM ) OUT");
        }
        if (token.equals("if")) {
            return nest("TRUTH then SUM else SUM end OUT");
        }
        return isNumber(token) || is(token, says ? "method in for mood next depth" : "method in for mood") ? 0 : 2;
    }

    private int unfoldUnit(String token) {
        if (token.equals("not")) {
            return nest("UNIT OUT");
        }
        if (token.equals("[")) {
            return nest("TRUTH ] OUT");
        }
        push("SUM COMPARED SUM");
        return -1;
    }
}
