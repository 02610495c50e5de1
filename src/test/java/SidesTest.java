/** Promises 11 and 12: level, order. */
public final class SidesTest {
    private static final Check CHECK = new Check();
    private static final int ASK = 2;

    public static void main(String[] args) {
        theBaseIsAskedForOrFound();
        noneTakesWhatIsInFront();
        numbersBehindArab();
        signsBetweenNumbers();
        unitsBesideNumbers();
        numbersBehindLeft();
        neutralsBetweenSides();
        tabsAndWhitesTakeTheBase();
        orders();
        edges();
        CHECK.end();
    }

    /** Each character from 0 to 11 has its own number as class. */
    private static TextPipeline classed() {
        TextPipeline x = new TextPipeline();
        for (int c = 0; c < 12; c++) {
            x.set(c, 3, c);
        }
        return x;
    }

    private static void levels(String want, int base, int... text) {
        TextPipeline x = classed();
        Check.retype(x, text);
        StringBuilder got = new StringBuilder();
        for (int i = 0; i < text.length; i++) {
            got.append(x.level(i, base));
        }
        String what = java.util.Arrays.toString(text) + " with base " + base;
        CHECK.due("levels of " + what, got.toString(), want);
    }

    private static void order(String want, int base, int... text) {
        TextPipeline x = classed();
        Check.retype(x, text);
        StringBuilder got = new StringBuilder();
        for (int i = 0; i < text.length; i++) {
            got.append(i == 0 ? "" : " ").append(x.order(i, base));
        }
        String what = java.util.Arrays.toString(text) + " with base " + base;
        CHECK.due("order of " + what, got.toString(), want);
    }

    private static void theBaseIsAskedForOrFound() {
        levels("010", 0, 3, 1, 0);
        levels("212", 1, 3, 1, 0);
        for (int base : new int[] {ASK, -1, 3, Integer.MIN_VALUE, Integer.MAX_VALUE}) {
            levels("212", base, 3, 1, 0);
            levels("001", base, 3, 0, 1);
            levels("21", base, 3, 2);
            levels("00", base, 3, 9);
            levels("20", base, 6, 9);
        }
        levels("122", ASK, 1, 40, 74);
        levels("01", ASK, 57, 1);
    }

    private static void noneTakesWhatIsInFront() {
        levels("111", 0, 1, 8, 8);
        levels("222", 1, 0, 8, 8);
        levels("01", 0, 8, 1);
        levels("11", 1, 8, 1);
        levels("1111", 0, 1, 9, 8, 1);
        levels("100", 0, 1, 9, 8);
        levels("122", 0, 1, 3, 8);
        levels("122", 0, 2, 6, 8);
        levels("11212", 0, 2, 8, 3, 4, 3);
        levels("12112", 0, 1, 3, 4, 8, 3);
    }

    private static void numbersBehindArab() {
        levels("12", 0, 2, 3);
        levels("1212", 0, 2, 3, 4, 3);
        levels("1222", 0, 2, 3, 7, 3);
        levels("121", 1, 2, 3, 5);
        levels("122", 1, 1, 3, 5);
        levels("100", 0, 2, 0, 3);
        levels("11222", 0, 2, 1, 3, 4, 3);
        levels("111212", 0, 2, 9, 11, 3, 4, 3);
        levels("121212", 0, 2, 3, 11, 3, 4, 3);
        levels("02", 0, 0, 6);
        levels("1100", 0, 2, 2, 0, 3);
    }

    private static void signsBetweenNumbers() {
        levels("1222", 0, 1, 3, 4, 3);
        levels("1222", 0, 1, 3, 7, 3);
        levels("1222", 0, 1, 6, 7, 6);
        levels("1212", 0, 1, 6, 4, 6);
        levels("1212", 0, 1, 3, 7, 6);
        levels("1212", 0, 1, 6, 7, 3);
        levels("1212", 0, 1, 3, 4, 6);
        levels("12112", 0, 1, 3, 4, 4, 3);
        levels("12112", 0, 1, 3, 7, 7, 3);
        levels("122222", 0, 1, 3, 4, 3, 4, 3);
        levels("120", 0, 1, 3, 4);
        levels("120", 0, 1, 3, 7);
        levels("112", 0, 1, 4, 3);
        levels("112", 0, 1, 7, 3);
    }

    private static void unitsBesideNumbers() {
        levels("1222", 0, 1, 5, 5, 3);
        levels("1222", 0, 1, 3, 5, 5);
        levels("100", 0, 1, 5, 5);
        levels("1112", 0, 1, 5, 9, 3);
        levels("12122", 0, 1, 3, 4, 5, 3);
        levels("112", 0, 1, 5, 6);
        levels("121", 1, 1, 6, 5);
        levels("1222", 0, 1, 6, 5, 3);
        levels("12222", 0, 1, 3, 5, 5, 6);
        levels("1221", 1, 1, 3, 5, 9);
    }

    private static void numbersBehindLeft() {
        levels("00", 0, 0, 3);
        levels("02", 0, 0, 6);
        levels("0", 0, 3);
        levels("2", 1, 3);
        levels("1200", 0, 1, 3, 0, 3);
        levels("000", 0, 0, 9, 3);
        levels("222", 1, 0, 9, 3);
        levels("212", 1, 0, 9, 6);
        levels("112", 0, 1, 9, 3);
        levels("00000", 0, 3, 5, 3, 4, 3);
    }

    private static void neutralsBetweenSides() {
        for (int neutral : new int[] {9, 11, 4, 5, 7}) {
            levels("2222", 1, 0, neutral, 11, 0);
            levels("001", 0, 0, neutral, 1);
            levels("211", 1, 0, neutral, 1);
            levels("100", 0, 1, neutral, 0);
            levels("112", 1, 1, neutral, 0);
            levels("01", 0, neutral, 1);
            levels("11", 1, neutral, 1);
            levels("12", 1, neutral, 0);
            levels("21", 1, 0, neutral);
            levels("10", 0, 1, neutral);
            levels("11", 1, 1, neutral);
            levels("11111", 0, 1, neutral, 11, neutral, 1);
        }
        levels("200", 0, 6, 11, 3);
        levels("212", 1, 6, 11, 3);
        levels("112", 0, 2, 11, 3);
        levels("1211", 0, 1, 3, 11, 1);
        levels("1211", 0, 2, 6, 9, 1);
        levels("0002", 0, 0, 11, 9, 6);
    }

    private static void tabsAndWhitesTakeTheBase() {
        levels("101", 0, 1, 10, 1);
        levels("212", 1, 0, 10, 0);
        levels("1001", 0, 1, 9, 10, 1);
        levels("10001", 0, 1, 9, 9, 10, 1);
        levels("2112", 1, 0, 9, 10, 0);
        levels("222", 1, 0, 9, 0);
        levels("1011", 0, 1, 10, 9, 1);
        levels("2122", 1, 0, 10, 9, 0);
        levels("11101", 0, 1, 9, 11, 10, 1);
        levels("22212", 1, 0, 9, 11, 10, 0);
        levels("11101", 0, 1, 9, 8, 10, 1);
        levels("1011", 0, 1, 10, 8, 1);
        levels("1000001", 0, 1, 9, 10, 9, 10, 10, 1);
        levels("1000", 0, 1, 9, 10, 9);
        levels("2111", 1, 0, 9, 9, 9);
        levels("0", 0, 10);
        levels("1", 1, 9);
    }

    private static void orders() {
        order("0 1 2", 0, 0, 0, 0);
        order("2 1 0", 0, 1, 1, 1);
        order("0 1 2", 1, 0, 0, 0);
        order("0 2 1 3", 0, 0, 1, 1, 0);
        order("3 2 1 0", 1, 0, 1, 1, 0);
        order("1 2 0 3", 0, 1, 3, 3, 0);
        order("2 0 1", 1, 0, 0, 1);
        order("1 0 2 4 3", 0, 1, 1, 0, 1, 1);
        order("2 0 1", ASK, 3, 3, 1);
        order("0 1 2", ASK, 3, 3, 0);
        order("1 0 2 4 3", 0, 1, 1, 10, 1, 1);
        order("6 4 5 3 1 2 0", ASK, 1, 0, 0, 1, 3, 3, 1);
        TextPipeline x = classed();
        for (int i = 0; i < 40; i++) {
            x.type(1);
        }
        for (int i = 0; i < 40; i++) {
            CHECK.due("order(" + i + ", 0) of 40", x.order(i, 0), 39 - i);
        }
        x.set(1, 3, 0);
        CHECK.due("a changed class: order(0, 2)", x.order(0, 2), 0);
        CHECK.due("a changed class: level(39, 1)", x.level(39, 1), 2);
    }

    private static void edges() {
        TextPipeline x = classed();
        Check.retype(x, 1, 0, 3);
        for (int base = -1; base <= 2; base++) {
            for (int i : new int[] {-1, 3, 40, Integer.MIN_VALUE, Integer.MAX_VALUE}) {
                int b = base;
                CHECK.fails("level(" + i + ", " + b + ")", Check.INDEX, () -> x.level(i, b));
                CHECK.fails("order(" + i + ", " + b + ")", Check.INDEX, () -> x.order(i, b));
            }
        }
        CHECK.due("level leaves the text", Check.textOf(x), "1 0 3");
    }
}
