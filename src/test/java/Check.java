import java.nio.charset.StandardCharsets;

/** What the tests have in common: to tell a house, and to compare answers with those due. */
final class Check {
    private int wrong;
    private int asked;

    void due(String what, long got, long want) {
        asked++;
        if (got != want) {
            wrong++;
            System.out.println(what + " answered " + got + ", due is " + want);
        }
    }

    /** Ends the test with exit code 1 if an answer was wrong. */
    void end() {
        System.out.println(asked + " answers, " + wrong + " wrong");
        if (wrong != 0 || asked == 0) {
            System.exit(1);
        }
    }

    /** Feeds a text (signs 0 to 255), filled up with blanks, and answers what house() does. */
    static int tell(OrderMerge x, String text) {
        feed(x, text);
        return x.house(text.length());
    }

    static void feed(OrderMerge x, String text) {
        byte[] bytes = text.getBytes(StandardCharsets.ISO_8859_1);
        for (int i = 0; i < bytes.length; i += 20) {
            int[] words = new int[5];
            for (int j = 0; j < 20; j++) {
                int one = i + j < bytes.length ? bytes[i + j] & 255 : ' ';
                words[j / 4] = words[j / 4] << 8 | one;
            }
            x.feed(words[0], words[1], words[2], words[3], words[4]);
        }
    }

    static OrderMerge told(String text) {
        OrderMerge x = new OrderMerge();
        int lines = tell(x, text);
        if (lines < 1) {
            throw new IllegalStateException("the test's own text is refused: " + text);
        }
        return x;
    }

    static void fill(OrderMerge x, int tray, int sort, long... numbers) {
        x.numbers(tray, sort, numbers.length);
        for (int i = 0; i < numbers.length; i++) {
            x.write(tray, i, numbers[i]);
        }
    }
}
