/** Promise 10: line. */
public final class LinesTest {
    private static final Check CHECK = new Check();
    private static final int CLASSES = 13;

    // A row for each class of x, a column for each class of y.
    private static final String[] PAIRS = {
        "0000000000100", // ALPHA
        "2222222222222", // END
        "1000010111110", // SPACE
        "1000111111111", // ZERO
        "0000000000000", // GLUE
        "0000000000000", // OPEN
        "0000010000100", // CLOSE
        "0000000000000", // QUOTE
        "1000010000100", // HYPHEN
        "0000000000100", // DIGIT
        "1000010001100", // SIGN
        "0000000000100", // MARK, that is ALPHA at the beginning
        "0000010000100", // COMMA
    };

    private static final String BEHIND_SPACE = "1000010111110";
    private static final String BEHIND_ZERO = "1000111111111";
    private static final String BEHIND_OPEN = "0000000000000";
    private static final String BEHIND_QUOTE = "1000000111110";

    public static void main(String[] args) {
        pairs();
        pairsOverSpaces();
        marksCountAsWhatTheyAreBehind();
        hangulIsSigns();
        edges();
        CHECK.end();
    }

    /** Each character from 0 to 12 has its own number as class. */
    private static TextPipeline classed() {
        TextPipeline x = new TextPipeline();
        for (int c = 0; c < CLASSES; c++) {
            x.set(c, 2, c);
        }
        return x;
    }

    private static void pairs() {
        for (int i = 0; i < CLASSES; i++) {
            TextPipeline x = classed();
            for (int j = 0; j < CLASSES; j++) {
                Check.retype(x, i, j);
                CHECK.due("line(1) of " + i + " " + j, x.line(1), PAIRS[i].charAt(j) - '0');
                CHECK.due("line(2) of " + i + " " + j, x.line(2), 2);
            }
        }
    }

    private static String rowOverSpaces(int first) {
        switch (first) {
            case 3:
                return BEHIND_ZERO;
            case 5:
                return BEHIND_OPEN;
            case 7:
                return BEHIND_QUOTE;
            default:
                return BEHIND_SPACE;
        }
    }

    private static void pairsOverSpaces() {
        for (int i = 0; i < CLASSES; i++) {
            TextPipeline x = classed();
            for (int j = 0; j < CLASSES; j++) {
                int want = rowOverSpaces(i).charAt(j) - '0';
                Check.retype(x, i, 2, j);
                CHECK.due("line(2) of " + i + " 2 " + j, x.line(2), want);
                Check.retype(x, i, 2, 2, 2, j);
                CHECK.due("line(4) of " + i + " 2 2 2 " + j, x.line(4), want);
                CHECK.due("line(3) of " + i + " 2 2 2 " + j, x.line(3), 0);
            }
        }
    }

    private static void cut(String want, int... text) {
        TextPipeline x = classed();
        Check.retype(x, text);
        StringBuilder got = new StringBuilder();
        for (int i = 0; i <= text.length; i++) {
            got.append(x.line(i));
        }
        CHECK.due("lines in " + java.util.Arrays.toString(text), got.toString(), want);
    }

    private static void marksCountAsWhatTheyAreBehind() {
        for (int i = 0; i < CLASSES; i++) {
            if (i >= 1 && i <= 3) {
                continue;
            }
            TextPipeline x = classed();
            for (int j = 0; j < CLASSES; j++) {
                Check.retype(x, i, 11, 11, j);
                CHECK.due("line(1) of " + i + " 11 11 " + j, x.line(1), 0);
                CHECK.due("line(2) of " + i + " 11 11 " + j, x.line(2), 0);
                CHECK.due("line(3) of " + i + " 11 11 " + j, x.line(3), PAIRS[i].charAt(j) - '0');
            }
        }
        cut("02012", 1, 11, 11, 10);
        cut("00102", 0, 2, 11, 0);
        cut("010012", 3, 11, 11, 9, 10);
        cut("000002", 5, 11, 2, 11, 0);
        cut("000002", 7, 11, 2, 5, 5);
        cut("0000102", 10, 11, 11, 2, 11, 9);
    }

    private static void hangulIsSigns() {
        for (int c = 40; c < 75; c++) {
            TextPipeline x = classed();
            Check.retype(x, c, c, 0, c, 9, c, 8, c, 11, c);
            String got = "";
            for (int i = 1; i <= 10; i++) {
                got += x.line(i);
            }
            CHECK.due("lines round " + c, got, "1111101012");
        }
    }

    private static void edges() {
        TextPipeline x = classed();
        CHECK.due("empty: line(0)", x.line(0), 0);
        CHECK.fails("empty: line(1)", Check.INDEX, () -> x.line(1));
        Check.retype(x, 1, 3);
        CHECK.due("line(0)", x.line(0), 0);
        CHECK.due("line(length)", x.line(2), 2);
        for (int i : new int[] {-1, 3, Integer.MIN_VALUE, Integer.MAX_VALUE}) {
            CHECK.fails("line(" + i + ")", Check.INDEX, () -> x.line(i));
        }
        cut("00000002", 2, 2, 2, 2, 2, 2, 2);
        cut("00000012", 2, 2, 2, 2, 2, 2, 0);
        x.wipe();
        for (int i = 0; i < 40; i++) {
            x.type(2);
        }
        CHECK.due("a full text: line(39)", x.line(39), 0);
        CHECK.due("a full text: line(40)", x.line(40), 2);
        x.set(2, 2, 1);
        CHECK.due("a changed class: line(39)", x.line(39), 2);
    }
}
