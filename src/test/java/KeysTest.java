/** Promises 13 to 17: key, keyAt, keep, compare, same. */
public final class KeysTest {
    private static final Check CHECK = new Check();

    public static void main(String[] args) {
        weightsComeInThreeRows();
        keysAreOfThePartedForm();
        theLongestKey();
        keyAtRefusesTheRest();
        keptTextsStay();
        keysAreCompared();
        comparedAsTheTableIsNow();
        sameLooksAtPartedForms();
        longTextsAreCompared();
        slotsAreFour();
        CHECK.end();
    }

    private static TextPipeline weighted() {
        TextPipeline x = new TextPipeline();
        weigh(x, 1, 5, 6, 7);
        weigh(x, 2, 8, 0, 0);
        weigh(x, 3, 0, 9, 0);
        weigh(x, 4, 0, 0, 10);
        return x;
    }

    private static void weigh(TextPipeline x, int c, int first, int second, int third) {
        x.set(c, 4, first);
        x.set(c, 5, second);
        x.set(c, 6, third);
    }

    private static void keyIs(TextPipeline x, String want, int... text) {
        Check.retype(x, text);
        String what = java.util.Arrays.toString(text);
        CHECK.due("key of " + what, Check.keyOf(x), want);
        CHECK.due("key() of " + what, x.key(), want.split(" ").length);
    }

    private static void weightsComeInThreeRows() {
        TextPipeline x = weighted();
        keyIs(x, "0 0");
        keyIs(x, "5 0 6 0 7", 1);
        keyIs(x, "5 8 0 6 9 0 7 10", 1, 2, 3, 4);
        keyIs(x, "8 5 0 9 6 0 10 7", 4, 3, 2, 1);
        keyIs(x, "0 0", 0, 0, 0);
        keyIs(x, "5 5 0 6 6 0 7 7", 0, 1, 0, 1, 0);
    }

    private static void keysAreOfThePartedForm() {
        TextPipeline x = weighted();
        x.part(20, 1, 2, false);
        weigh(x, 20, 99, 99, 99);
        keyIs(x, "5 8 8 0 6 0 7", 20, 2);
        CHECK.due("key leaves the text", Check.textOf(x), "20 2");
        x.set(1, 0, 30);
        x.set(2, 0, 20);
        keyIs(x, "8 5 0 6 0 7", 20);
        for (int c = 40; c < 48; c++) {
            keyIs(x, (1000 + c) + " 0 1 0 1", c);
        }
        keyIs(x, "1042 1045 1047 0 1 1 1 0 1 1 1", 74);
        keyIs(x, "1040 1043 0 1 1 0 1 1", 48);
    }

    private static void theLongestKey() {
        TextPipeline x = weighted();
        x.part(20, 1, 1, false);
        x.part(21, 20, 20, false);
        for (int i = 0; i < 40; i++) {
            x.type(21);
        }
        CHECK.due("the longest key()", x.key(), 482);
        CHECK.due("keyAt(159)", x.keyAt(159), 5);
        CHECK.due("keyAt(160)", x.keyAt(160), 0);
        CHECK.due("keyAt(161)", x.keyAt(161), 6);
        CHECK.due("keyAt(320)", x.keyAt(320), 6);
        CHECK.due("keyAt(321)", x.keyAt(321), 0);
        CHECK.due("keyAt(481)", x.keyAt(481), 7);
        CHECK.fails("keyAt(482)", Check.INDEX, () -> x.keyAt(482));
    }

    private static void keyAtRefusesTheRest() {
        TextPipeline x = weighted();
        for (int i : new int[] {-1, 2, Integer.MIN_VALUE, Integer.MAX_VALUE}) {
            CHECK.fails("empty: keyAt(" + i + ")", Check.INDEX, () -> x.keyAt(i));
        }
        Check.retype(x, 1);
        CHECK.due("keyAt(4)", x.keyAt(4), 7);
        CHECK.fails("keyAt(5)", Check.INDEX, () -> x.keyAt(5));
        CHECK.fails("keyAt(-1)", Check.INDEX, () -> x.keyAt(-1));
    }

    private static void keptTextsStay() {
        TextPipeline x = weighted();
        Check.retype(x, 1, 2);
        x.keep(0);
        Check.retype(x, 2);
        x.keep(3);
        CHECK.due("keep leaves the text", Check.textOf(x), "2");
        CHECK.due("slot 3 keeps it", x.same(3), true);
        CHECK.due("slot 0 keeps another", x.same(0), false);
        CHECK.due("slot 1 is still empty", x.compare(1), 1);
        CHECK.due("slot 2 is still empty", x.compare(2), 1);
        Check.retype(x, 1, 2);
        CHECK.due("slot 0 keeps what it got", x.same(0), true);
        x.type(3);
        CHECK.due("typing leaves slot 0", x.same(0), false);
        x.keep(0);
        CHECK.due("a slot is kept anew", x.same(0), true);
        x.wipe();
        x.keep(0);
        CHECK.due("a slot is emptied", x.same(0), true);
    }

    private static void compared(TextPipeline x, int want, int[] text, int[] other) {
        String what = java.util.Arrays.toString(text) + " with " + java.util.Arrays.toString(other);
        Check.retype(x, other);
        x.keep(1);
        Check.retype(x, text);
        CHECK.due("compare " + what, x.compare(1), want);
        x.keep(2);
        Check.retype(x, other);
        CHECK.due("compare turned " + what, x.compare(2), -want);
    }

    private static void keysAreCompared() {
        TextPipeline x = weighted();
        weigh(x, 5, 5, 6, 8);
        weigh(x, 6, 5, 7, 1);
        weigh(x, 7, 6, 1, 1);
        compared(x, 0, new int[] {}, new int[] {});
        compared(x, 0, new int[] {1, 2}, new int[] {1, 2});
        compared(x, -1, new int[] {1}, new int[] {5});
        compared(x, -1, new int[] {5}, new int[] {6});
        compared(x, -1, new int[] {6}, new int[] {7});
        compared(x, -1, new int[] {1}, new int[] {1, 1});
        compared(x, -1, new int[] {4}, new int[] {4, 4});
        compared(x, -1, new int[] {}, new int[] {4});
        compared(x, -1, new int[] {}, new int[] {7});
        compared(x, -1, new int[] {1, 7}, new int[] {7});
        compared(x, -1, new int[] {4, 4, 4}, new int[] {3});
        compared(x, 0, new int[] {2, 3}, new int[] {3, 2});
        compared(x, 0, new int[] {0, 1}, new int[] {1});
        compared(x, -1, new int[] {7}, new int[] {40});
        compared(x, -1, new int[] {5, 6}, new int[] {6, 1});
    }

    private static void comparedAsTheTableIsNow() {
        TextPipeline x = weighted();
        Check.retype(x, 1);
        x.keep(0);
        Check.retype(x, 2);
        CHECK.due("before the change", x.compare(0), 1);
        x.set(1, 4, 9);
        CHECK.due("behind the change", x.compare(0), -1);
        x.part(2, 1, -1, false);
        CHECK.due("both are the same now", x.compare(0), 0);
        CHECK.due("and of the same form", x.same(0), true);
        x.part(2, -1, -1, false);
        CHECK.due("and no more", x.same(0), false);
    }

    private static void sameLooksAtPartedForms() {
        TextPipeline x = new TextPipeline();
        x.part(20, 1, 2, true);
        x.set(2, 0, 9);
        x.set(3, 0, 8);
        Check.retype(x, 20, 3);
        x.keep(0);
        Check.retype(x, 1, 3, 2);
        CHECK.due("same by parts and ranks", x.same(0), true);
        CHECK.due("same leaves the text", Check.textOf(x), "1 3 2");
        Check.retype(x, 1, 3);
        CHECK.due("not same as its beginning", x.same(0), false);
        CHECK.due("though the keys are", x.compare(0), 0);
        Check.retype(x, 1, 3, 2, 2);
        CHECK.due("not same as a longer one", x.same(0), false);
        Check.retype(x, 3, 1, 2);
        CHECK.due("not over a starter", x.same(0), false);
        Check.retype(x, 74);
        x.keep(3);
        Check.retype(x, 42, 45, 47);
        CHECK.due("a syllable and its parts", x.same(3), true);
        CHECK.due("a syllable and its parts: keys", x.compare(3), 0);
    }

    private static void longTextsAreCompared() {
        TextPipeline x = weighted();
        x.part(20, 1, 1, false);
        x.part(21, 20, 20, false);
        for (int i = 0; i < 40; i++) {
            x.type(21);
        }
        x.keep(0);
        CHECK.due("160 parts: same", x.same(0), true);
        CHECK.due("160 parts: compare", x.compare(0), 0);
        x.wipe();
        for (int i = 0; i < 39; i++) {
            x.type(21);
        }
        x.type(20);
        CHECK.due("158 parts: same", x.same(0), false);
        CHECK.due("158 parts: compare", x.compare(0), -1);
    }

    private static void slotsAreFour() {
        TextPipeline x = weighted();
        for (int k : new int[] {-1, 4, Integer.MIN_VALUE, Integer.MAX_VALUE}) {
            CHECK.fails("keep(" + k + ")", Check.INDEX, () -> x.keep(k));
            CHECK.fails("compare(" + k + ")", Check.INDEX, () -> x.compare(k));
            CHECK.fails("same(" + k + ")", Check.INDEX, () -> x.same(k));
        }
        for (int k = 0; k < 4; k++) {
            Check.retype(x, 40 + k);
            x.keep(k);
        }
        for (int k = 0; k < 4; k++) {
            Check.retype(x, 40 + k);
            for (int other = 0; other < 4; other++) {
                CHECK.due("slot " + other + " with " + k, x.compare(other), Integer.compare(k, other));
                CHECK.due("slot " + other + " same " + k, x.same(other), k == other);
            }
        }
    }
}
