/** Promises 8 and 9: cluster, clusters. */
public final class ClustersTest {
    private static final Check CHECK = new Check();

    // Characters 0 .. 9 have their own number as class; then come a lead, a vowel, a tail, a
    // syllable without a tail and one with it.
    private static final int[] KINDS = {0, 1, 2, 3, 4, 5, 6, 7, 8, 9, 41, 44, 47, 51, 53};

    // A row for each x, a column for each y: whether a cluster ends between them.
    private static final String[] PAIRS = {
        "111100110111111", // OTHER
        "110111111111111", // RETURN
        "111111111111111", // FEED
        "111111111111111", // CONTROL
        "111100110111111", // EXTEND
        "111100110111111", // JOINER
        "111100010111111", // REGION
        "011100000000000", // PREPEND
        "111100110111111", // SPACING
        "111100110111111", // PICTURE
        "111100110100100", // lead
        "111100110110011", // vowel
        "111100110111011", // tail
        "111100110110011", // syllable without a tail
        "111100110111011", // syllable with a tail
    };

    public static void main(String[] args) {
        pairs();
        picturesAreJoined();
        regionsGoInPairs();
        hangulRows();
        hangulPairs();
        edges();
        CHECK.end();
    }

    private static TextPipeline classed() {
        TextPipeline x = new TextPipeline();
        for (int c = 0; c < 10; c++) {
            x.set(c, 1, c);
        }
        return x;
    }

    private static void pairs() {
        for (int i = 0; i < KINDS.length; i++) {
            TextPipeline x = classed();
            for (int j = 0; j < KINDS.length; j++) {
                boolean end = PAIRS[i].charAt(j) == '1';
                Check.retype(x, KINDS[i], KINDS[j]);
                String pair = KINDS[i] + " " + KINDS[j];
                CHECK.due("cluster(1) of " + pair, x.cluster(1), end);
                CHECK.due("clusters() of " + pair, x.clusters(), end ? 2 : 1);
            }
        }
    }

    /** Want has a 1 for each place from 1 to the length - 1 where a cluster ends. */
    private static void cut(String want, int... text) {
        TextPipeline x = classed();
        Check.retype(x, text);
        StringBuilder got = new StringBuilder();
        int ends = 1;
        for (int i = 1; i < text.length; i++) {
            got.append(x.cluster(i) ? '1' : '0');
            ends += x.cluster(i) ? 1 : 0;
        }
        String what = java.util.Arrays.toString(text);
        CHECK.due("clusters in " + what, got.toString(), want);
        CHECK.due("clusters() of " + what, x.clusters(), ends);
    }

    private static void picturesAreJoined() {
        cut("00", 9, 5, 9);
        cut("0000", 9, 4, 4, 5, 9);
        cut("0000", 9, 5, 9, 5, 9);
        cut("01", 4, 5, 9);
        cut("01", 0, 5, 9);
        cut("0001", 9, 8, 4, 5, 9);
        cut("001", 9, 5, 5, 9);
        cut("001", 9, 5, 4, 9);
        cut("01", 9, 5, 0);
        cut("000", 9, 5, 9, 4);
        cut("1", 5, 9);
        cut("01", 5, 4, 9);
        cut("01", 5, 5, 9);
    }

    private static void regionsGoInPairs() {
        cut("0", 6, 6);
        cut("01", 6, 6, 6);
        cut("010", 6, 6, 6, 6);
        cut("0101", 6, 6, 6, 6, 6);
        cut("10101", 0, 6, 6, 6, 6, 0);
        cut("010", 6, 4, 6, 6);
        cut("00", 7, 6, 6);
        cut("0001", 7, 6, 6, 8, 6);
        cut("001", 7, 6, 6, 6);
    }

    private static void hangulRows() {
        cut("0011", 40, 43, 46, 40, 0);
        cut("000", 40, 40, 48, 46);
        cut("00", 48, 43, 46);
        cut("10", 49, 43, 46);
        cut("00", 49, 47, 46);
        cut("010", 40, 4, 43, 46);
        cut("00", 7, 40, 74);
        cut("010", 1, 2, 40, 8);
        cut("110", 1, 1, 1, 2);
        cut("11", 1, 4, 0);
        cut("1", 7, 3);
    }

    /** By letters: L a lead, V a vowel, T a tail, W a syllable without a tail, Q one with it. */
    private static void hangulPairs() {
        String letters = "LLLVVVTT" + "WQQ".repeat(9);
        for (int i = 0; i < letters.length(); i++) {
            TextPipeline x = new TextPipeline();
            for (int j = 0; j < letters.length(); j++) {
                String pair = letters.substring(i, i + 1) + letters.charAt(j);
                boolean end = !pair.matches("L[LVWQ]|[VW][VT]|[TQ]T");
                Check.retype(x, 40 + i, 40 + j);
                CHECK.due("cluster(1) of " + (40 + i) + " " + (40 + j), x.cluster(1), end);
            }
            Check.retype(x, 39, 40 + i, 39);
            CHECK.due("clusters() round " + (40 + i), x.clusters(), 3);
        }
    }

    private static void edges() {
        TextPipeline x = classed();
        Check.retype(x, 9, 4);
        CHECK.due("cluster(0)", x.cluster(0), true);
        CHECK.due("cluster(length)", x.cluster(2), true);
        for (int i : new int[] {-1, 3, Integer.MIN_VALUE, Integer.MAX_VALUE}) {
            CHECK.fails("cluster(" + i + ")", Check.INDEX, () -> x.cluster(i));
        }
        x.wipe();
        CHECK.due("empty: cluster(0)", x.cluster(0), true);
        CHECK.due("empty: clusters()", x.clusters(), 0);
        CHECK.fails("empty: cluster(1)", Check.INDEX, () -> x.cluster(1));
        Check.retype(x, 4);
        CHECK.due("one alone: clusters()", x.clusters(), 1);
        for (int i = 1; i < 40; i++) {
            x.type(4);
        }
        CHECK.due("a full cluster: clusters()", x.clusters(), 1);
        CHECK.due("a full cluster: cluster(40)", x.cluster(40), true);
        x.set(4, 1, 3);
        CHECK.due("a changed class: clusters()", x.clusters(), 40);
    }
}
