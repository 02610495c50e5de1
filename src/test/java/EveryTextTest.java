import java.util.ArrayList;
import java.util.Arrays;
import java.util.List;
import java.util.function.Consumer;

/** Every short text over all classes, on the class and on the model, place by place. */
public final class EveryTextTest {
    private static final Check CHECK = new Check();
    private static final int CLUSTER = 1;
    private static final int LINE = 2;
    private static final int SIDE = 3;

    // 0 and 6 have rank 0, 1 and 2 the same one, 3 a lesser one; 7 to 10 can be joined.
    private static final int[][] RANKS = {{1, 20}, {2, 20}, {3, 10}};
    private static final int[][] PARTS = {{7, 0, 1}, {8, 7, 2}, {9, 0, 6}, {10, 9, 3}, {11, 2, 3}};

    private final TextPipeline x = new TextPipeline();
    private final Model model = new Model();
    private final int[] text;

    private EveryTextTest(int[] text) {
        this.text = text;
    }

    public static void main(String[] args) {
        each(new int[] {0, 1, 2, 3, 4, 5, 6, 7, 8, 9, 40, 43, 46, 48, 49}, 3, EveryTextTest::clusters);
        each(numbersTo(12), 3, EveryTextTest::lines);
        each(numbersTo(11), 3, EveryTextTest::sides);
        each(new int[] {0, 1, 2, 3, 6, 8, 10, 11}, 4, EveryTextTest::forms);
        each(new int[] {40, 43, 44, 46, 47, 48, 49, 3}, 4, EveryTextTest::forms);
        keys();
        CHECK.end();
    }

    private static int[] numbersTo(int last) {
        int[] all = new int[last + 1];
        for (int i = 0; i <= last; i++) {
            all[i] = i;
        }
        return all;
    }

    private static void each(int[] characters, int length, Consumer<int[]> look) {
        grow(new int[0], characters, length, look);
    }

    private static void grow(int[] text, int[] characters, int length, Consumer<int[]> look) {
        look.accept(text);
        for (int i = 0; i < characters.length && text.length < length; i++) {
            int[] longer = Arrays.copyOf(text, text.length + 1);
            longer[text.length] = characters[i];
            grow(longer, characters, length, look);
        }
    }

    private static void clusters(int[] text) {
        EveryTextTest test = ofClasses(text, CLUSTER, 9);
        test.due("clusters", test.x.clusters(), test.model.clusters());
        for (int i = 0; i <= text.length; i++) {
            test.due("cluster " + i, test.x.cluster(i) ? 1 : 0, test.model.cluster(i) ? 1 : 0);
        }
    }

    private static void lines(int[] text) {
        EveryTextTest test = ofClasses(text, LINE, 12);
        for (int i = 0; i <= text.length; i++) {
            test.due("line " + i, test.x.line(i), test.model.line(i));
        }
    }

    private static void sides(int[] text) {
        EveryTextTest test = ofClasses(text, SIDE, 11);
        for (int base = 0; base <= 2; base++) {
            for (int i = 0; i < text.length; i++) {
                String where = i + " with base " + base;
                test.due("level " + where, test.x.level(i, base), test.model.level(i, base));
                test.due("order " + where, test.x.order(i, base), test.model.order(i, base));
            }
        }
    }

    private static void forms(int[] text) {
        for (boolean joined : new boolean[] {false, true}) {
            EveryTextTest test = ofParts(text);
            test.due("bring " + joined, test.x.bring(joined), test.model.bring(joined));
            for (int i = 0; i < test.model.length(); i++) {
                test.due("bring " + joined + ", at " + i, test.x.at(i), test.model.at(i));
            }
        }
    }

    /** Every text against every other one, in the slots of one object for each of them. */
    private static void keys() {
        List<int[]> texts = new ArrayList<>();
        each(new int[] {0, 1, 2, 3, 7}, 2, texts::add);
        for (int[] kept : texts) {
            for (int[] text : texts) {
                EveryTextTest test = ofParts(kept);
                test.x.keep(2);
                test.model.keep(2);
                test.retype(text);
                String asked = ", kept, with " + Arrays.toString(text);
                test.due("compare", asked, test.x.compare(2), test.model.compare(2));
                test.due("same", asked, test.x.same(2) ? 1 : 0, test.model.same(2) ? 1 : 0);
            }
        }
    }

    /** The text over characters of which each has the class of its own number. */
    private static EveryTextTest ofClasses(int[] text, int what, int greatest) {
        EveryTextTest test = new EveryTextTest(text);
        for (int c = 0; c <= greatest; c++) {
            test.set(c, what, c);
        }
        test.retype(text);
        return test;
    }

    private static EveryTextTest ofParts(int[] text) {
        EveryTextTest test = new EveryTextTest(text);
        for (int[] row : RANKS) {
            test.set(row[0], 0, row[1]);
        }
        for (int[] row : PARTS) {
            test.x.part(row[0], row[1], row[2], false);
            test.model.part(row[0], row[1], row[2], false);
        }
        // 3 has the second weight alone, and 2 the third one; 0 has none.
        for (int[] row : new int[][] {{1, 4, 5}, {1, 5, 6}, {2, 6, 7}, {3, 5, 4}}) {
            test.set(row[0], row[1], row[2]);
        }
        test.retype(text);
        return test;
    }

    private void set(int c, int what, int v) {
        x.set(c, what, v);
        model.set(c, what, v);
    }

    private void retype(int[] characters) {
        x.wipe();
        model.wipe();
        for (int c : characters) {
            x.type(c);
            model.type(c);
        }
    }

    private void due(String call, int got, int want) {
        due(call, "", got, want);
    }

    private void due(String call, String asked, int got, int want) {
        if (got != want) {
            CHECK.due(call + " of " + Arrays.toString(text) + asked, got, want);
        }
    }
}
