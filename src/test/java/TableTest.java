/** Promises 1 to 5 and 7: a new object, set, part, type, wipe, at. */
public final class TableTest {
    private static final Check CHECK = new Check();
    private static final int[] GREATEST = {254, 9, 12, 11, 999, 999, 999};

    public static void main(String[] args) {
        newObjectIsEmpty();
        newTableIsAllZero();
        setTakesItsRanges();
        setRefusesTheRest();
        refusedSetChangesNothing();
        partRefusesWrongArguments();
        partRefusesMoreThanFour();
        refusedPartChangesNothing();
        partCanBeTakenBack();
        partFollowsLongChains();
        typeCountsAndRefuses();
        wipeEmptiesTheTextAlone();
        atAnswersWhatWasTyped();
        CHECK.end();
    }

    private static void newObjectIsEmpty() {
        TextPipeline x = new TextPipeline();
        CHECK.due("new: text", Check.textOf(x), "");
        CHECK.due("new: clusters()", x.clusters(), 0);
        CHECK.due("new: cluster(0)", x.cluster(0), true);
        CHECK.due("new: line(0)", x.line(0), 0);
        CHECK.due("new: key", Check.keyOf(x), "0 0");
        CHECK.due("new: bring(false)", x.bring(false), 0);
        CHECK.due("new: bring(true)", x.bring(true), 0);
        for (int k = 0; k < 4; k++) {
            CHECK.due("new: compare(" + k + ")", x.compare(k), 0);
            CHECK.due("new: same(" + k + ")", x.same(k), true);
        }
        CHECK.fails("new: at(0)", Check.INDEX, () -> x.at(0));
        CHECK.fails("new: level(0, 0)", Check.INDEX, () -> x.level(0, 0));
        CHECK.fails("new: order(0, 0)", Check.INDEX, () -> x.order(0, 0));
        CHECK.fails("new: cluster(1)", Check.INDEX, () -> x.cluster(1));
        CHECK.fails("new: line(1)", Check.INDEX, () -> x.line(1));
    }

    private static void newTableIsAllZero() {
        for (int c = 0; c < 40; c++) {
            TextPipeline x = new TextPipeline();
            Check.retype(x, c, c);
            CHECK.due("new: key of " + c, Check.keyOf(x), "0 0");
            CHECK.due("new: cluster of " + c, x.cluster(1), true);
            CHECK.due("new: line of " + c, x.line(1), 0);
            CHECK.due("new: level of " + c, x.level(0, 2), 0);
            x.bring(false);
            CHECK.due("new: parted " + c, Check.textOf(x), c + " " + c);
        }
    }

    private static void setTakesItsRanges() {
        TextPipeline x = new TextPipeline();
        for (int what = 0; what < 7; what++) {
            for (int c : new int[] {0, 17, 39}) {
                x.set(c, what, 0);
                x.set(c, what, GREATEST[what]);
            }
        }
        Check.retype(x, 0, 17, 39);
        CHECK.due("set: weights", Check.keyOf(x), "999 999 999 0 999 999 999 0 999 999 999");
        x.set(17, 4, 1);
        x.set(17, 5, 2);
        x.set(17, 6, 3);
        CHECK.due("set: weights of one", Check.keyOf(x), "999 1 999 0 999 2 999 0 999 3 999");
    }

    private static void setRefusesTheRest() {
        TextPipeline x = new TextPipeline();
        for (int what = 0; what < 7; what++) {
            int p = what;
            CHECK.fails("set(0, " + p + ", -1)", Check.ARGUMENT, () -> x.set(0, p, -1));
            CHECK.fails("set(0, " + p + ", over)", Check.ARGUMENT, () -> x.set(0, p, GREATEST[p] + 1));
            CHECK.fails("set(-1, " + p + ", 0)", Check.ARGUMENT, () -> x.set(-1, p, 0));
            CHECK.fails("set(40, " + p + ", 0)", Check.ARGUMENT, () -> x.set(40, p, 0));
            CHECK.fails("set(74, " + p + ", 0)", Check.ARGUMENT, () -> x.set(74, p, 0));
        }
        for (int what : new int[] {-1, 7, Integer.MIN_VALUE, Integer.MAX_VALUE}) {
            CHECK.fails("set(0, " + what + ", 0)", Check.ARGUMENT, () -> x.set(0, what, 0));
        }
        CHECK.fails("set(least)", Check.ARGUMENT, () -> x.set(Integer.MIN_VALUE, 0, 0));
        CHECK.fails("set(greatest)", Check.ARGUMENT, () -> x.set(0, 4, Integer.MAX_VALUE));
    }

    private static void refusedSetChangesNothing() {
        TextPipeline x = new TextPipeline();
        x.set(3, 4, 7);
        CHECK.fails("set(3, 4, 1000)", Check.ARGUMENT, () -> x.set(3, 4, 1000));
        Check.retype(x, 3);
        CHECK.due("refused set: key", Check.keyOf(x), "7 0 0");
    }

    private static void partRefusesWrongArguments() {
        TextPipeline x = new TextPipeline();
        int[][] wrong = {
            {-1, -1, -1}, {40, 0, 0}, {40, -1, -1}, {74, 0, 0}, {5, 5, -1}, {5, 6, 0}, {5, 0, 5},
            {5, -2, -1}, {5, 0, -2}, {5, -2, -2}, {5, -1, 0}, {5, -1, 4}, {0, 0, -1}, {0, -1, 0},
            {39, 39, 0}, {39, 0, 40}, {Integer.MIN_VALUE, -1, -1}, {Integer.MAX_VALUE, 0, 0},
            {5, Integer.MAX_VALUE, 0}, {5, 0, Integer.MIN_VALUE},
        };
        for (int[] w : wrong) {
            String call = "part(" + w[0] + ", " + w[1] + ", " + w[2] + ")";
            CHECK.fails(call, Check.ARGUMENT, () -> x.part(w[0], w[1], w[2], false));
        }
        x.part(0, -1, -1, true);
        x.part(1, 0, 0, false);
        x.part(39, 38, 37, false);
        Check.retype(x, 0, 1, 39);
        x.bring(false);
        CHECK.due("part: edges", Check.textOf(x), "0 0 0 38 37");
    }

    private static void partRefusesMoreThanFour() {
        TextPipeline x = new TextPipeline();
        x.part(10, 1, 2, false);
        x.part(11, 10, 3, false);
        x.part(12, 11, 4, false);
        CHECK.fails("part into five", Check.STATE, () -> x.part(13, 12, 5, false));
        CHECK.fails("part into five, turned", Check.STATE, () -> x.part(13, 5, 12, false));
        x.part(13, 12, -1, false);
        x.part(14, 10, 10, false);
        CHECK.fails("part a part of others", Check.STATE, () -> x.part(1, 0, 0, false));
        x.part(1, 0, -1, false);
        Check.retype(x, 12, 13, 14);
        CHECK.due("part into four: bring", x.bring(false), 12);
        CHECK.due("part into four", Check.textOf(x), "0 2 3 4 0 2 3 4 0 2 0 2");
        CHECK.fails("wrong argument first", Check.ARGUMENT, () -> x.part(13, 12, 13, false));
    }

    private static void refusedPartChangesNothing() {
        TextPipeline x = new TextPipeline();
        x.part(10, 1, 2, false);
        x.part(11, 10, 10, false);
        x.part(12, 3, 4, false);
        CHECK.fails("refused part", Check.STATE, () -> x.part(12, 11, 3, true));
        CHECK.fails("refused part, a wrong one", Check.ARGUMENT, () -> x.part(12, 12, 3, true));
        CHECK.fails("refused part of a part", Check.STATE, () -> x.part(2, 0, 1, false));
        Check.retype(x, 12, 11, 2);
        x.bring(false);
        CHECK.due("refused part: parted", Check.textOf(x), "3 4 1 2 1 2 2");
        x.bring(true);
        CHECK.due("refused part: joined", Check.textOf(x), "12 10 10 2");
    }

    private static void partCanBeTakenBack() {
        TextPipeline x = new TextPipeline();
        x.part(9, 1, 2, false);
        x.part(20, 9, 9, false);
        x.part(9, 3, -1, false);
        Check.retype(x, 20);
        x.bring(false);
        CHECK.due("part into one alone", Check.textOf(x), "3 3");
        x.part(9, -1, -1, false);
        Check.retype(x, 20);
        x.bring(false);
        CHECK.due("part not at all", Check.textOf(x), "9 9");
        x.part(8, 5, 6, false);
        CHECK.fails("part into eight", Check.STATE, () -> x.part(9, 8, 8, false));
        x.part(20, -1, -1, false);
        x.part(9, 8, 8, false);
        Check.retype(x, 20, 9);
        x.bring(false);
        CHECK.due("part anew", Check.textOf(x), "20 5 6 5 6");
    }

    private static void partFollowsLongChains() {
        TextPipeline x = new TextPipeline();
        for (int c = 1; c < 40; c++) {
            x.part(c, c - 1, -1, false);
        }
        Check.retype(x, 39, 20);
        CHECK.due("a long chain: bring", x.bring(false), 2);
        CHECK.due("a long chain", Check.textOf(x), "0 0");
        x.part(1, 0, 0, false);
        x.part(3, 2, 2, false);
        CHECK.fails("a long chain doubled", Check.STATE, () -> x.part(39, 38, 38, false));
        Check.retype(x, 39);
        x.bring(false);
        CHECK.due("a long chain of four", Check.textOf(x), "0 0 0 0");
    }

    private static void typeCountsAndRefuses() {
        TextPipeline x = new TextPipeline();
        for (int c : new int[] {-1, 75, Integer.MIN_VALUE, Integer.MAX_VALUE}) {
            CHECK.fails("type(" + c + ")", Check.ARGUMENT, () -> x.type(c));
        }
        CHECK.due("type(74)", x.type(74), 1);
        for (int i = 2; i <= 40; i++) {
            CHECK.due("type number " + i, x.type(i - 2), i);
        }
        CHECK.fails("type into a full text", Check.STATE, () -> x.type(0));
        CHECK.fails("type no character into a full text", Check.ARGUMENT, () -> x.type(75));
        CHECK.due("a full text: first", x.at(0), 74);
        CHECK.due("a full text: last", x.at(39), 38);
        CHECK.fails("a full text: at(40)", Check.INDEX, () -> x.at(40));
    }

    private static void wipeEmptiesTheTextAlone() {
        TextPipeline x = new TextPipeline();
        x.set(3, 4, 5);
        x.part(4, 3, 3, false);
        Check.retype(x, 4, 3);
        x.keep(2);
        x.wipe();
        CHECK.due("wipe: text", Check.textOf(x), "");
        CHECK.due("wipe: clusters()", x.clusters(), 0);
        CHECK.due("wipe: compare(2)", x.compare(2), -1);
        CHECK.due("wipe: type(4)", x.type(4), 1);
        CHECK.due("wipe: the table stays", Check.keyOf(x), "5 5 0 0");
    }

    private static void atAnswersWhatWasTyped() {
        TextPipeline x = new TextPipeline();
        x.part(4, 3, 3, false);
        Check.retype(x, 4, 74, 0);
        CHECK.due("at: all", Check.textOf(x), "4 74 0");
        for (int i : new int[] {-1, 3, Integer.MIN_VALUE, Integer.MAX_VALUE}) {
            CHECK.fails("at(" + i + ")", Check.INDEX, () -> x.at(i));
        }
    }
}
