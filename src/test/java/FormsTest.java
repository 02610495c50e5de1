/** Promise 6 and the terms behind it: the parted and the joined form. */
public final class FormsTest {
    private static final Check CHECK = new Check();

    public static void main(String[] args) {
        partsAreSortedByRank();
        syllablesArePartedAndJoined();
        startersJoinWhatIsBehindThem();
        ranksBetweenStandInTheWay();
        onlySomeCharactersAreJoinedTo();
        joiningGoesOnWithWhatIsThere();
        tooLongFormsAreRefused();
        CHECK.end();
    }

    private static void form(String what, TextPipeline x, boolean joined, String want, int... text) {
        Check.retype(x, text);
        int length = x.bring(joined);
        CHECK.due(what, Check.textOf(x), want);
        CHECK.due(what + ": how many", length, want.isEmpty() ? 0 : want.split(" ").length);
    }

    private static TextPipeline ranked() {
        TextPipeline x = new TextPipeline();
        x.set(1, 0, 10);
        x.set(2, 0, 20);
        x.set(3, 0, 20);
        x.set(4, 0, 254);
        return x;
    }

    private static void partsAreSortedByRank() {
        TextPipeline x = ranked();
        form("sorted", x, false, "1 2 3 4", 4, 2, 1, 3);
        form("equal ranks stay", x, false, "3 2", 3, 2);
        form("equal ranks stay, turned", x, false, "2 3 2", 2, 3, 2);
        form("rank 0 is a wall", x, false, "2 4 0 1 3", 4, 2, 0, 3, 1);
        form("rank 0 stays behind", x, false, "4 0", 4, 0);
        form("syllable parts are walls", x, false, "4 40 43 1", 4, 48, 1);
        x.part(30, 4, 1, false);
        x.set(30, 0, 0);
        form("parts are sorted, too", x, false, "0 1 1 2 4", 0, 2, 30, 1);
        x.set(30, 0, 99);
        form("the rank of what is parted is nothing", x, false, "0 1 2 4", 0, 2, 30);
        x.set(4, 0, 5);
        form("ranks are as they are now", x, false, "4 1 2", 2, 1, 4);
    }

    private static void syllablesArePartedAndJoined() {
        for (int l = 0; l < 3; l++) {
            for (int v = 0; v < 3; v++) {
                for (int t = 0; t < 3; t++) {
                    int syllable = 48 + 9 * l + 3 * v + t;
                    String parts = (40 + l) + " " + (43 + v) + (t == 0 ? "" : " " + (45 + t));
                    TextPipeline x = new TextPipeline();
                    form("parted " + syllable, x, false, parts, syllable);
                    x.bring(true);
                    CHECK.due("joined " + parts, Check.textOf(x), String.valueOf(syllable));
                }
            }
        }
        TextPipeline x = new TextPipeline();
        form("a tail behind a tail", x, true, "49 47", 49, 47);
        form("a vowel behind a syllable", x, true, "48 43", 48, 43);
        form("two leads", x, true, "40 51", 40, 40, 44);
        form("no lead", x, true, "43 46", 43, 46);
        form("a lead and a tail", x, true, "40 46", 40, 46);
        form("a syllable and a tail", x, true, "74", 72, 47);
        x.set(1, 0, 5);
        form("a mark in the way", x, true, "40 1 43", 40, 1, 43);
    }

    private static void startersJoinWhatIsBehindThem() {
        TextPipeline x = ranked();
        x.part(20, 0, 1, false);
        form("joined over nothing", x, true, "20", 0, 1);
        form("each starter by itself", x, true, "20 20", 0, 1, 0, 1);
        form("no starter", x, true, "1", 1);
        form("no starter in front", x, true, "1 20", 1, 0, 1);
        form("parted and joined", x, true, "20 2", 20, 2);
        form("the wrong way round", x, true, "1 0", 1, 0);
        x.part(21, 5, 6, false);
        form("two starters", x, true, "21 21 5", 5, 6, 5, 6, 5);
        form("two starters with a mark between", x, true, "5 4 6", 5, 4, 6);
    }

    private static void ranksBetweenStandInTheWay() {
        TextPipeline x = ranked();
        x.part(20, 0, 2, false);
        form("over a lesser rank", x, true, "20 1", 0, 1, 2);
        form("not over an equal rank", x, true, "0 3 2", 0, 3, 2);
        form("a greater rank comes behind", x, true, "20 4", 0, 4, 2);
        x.part(21, 0, 3, false);
        form("once one of equal rank is gone", x, true, "20 3", 0, 2, 3);
        x.part(22, 20, 3, false);
        form("the way is free again", x, true, "22", 0, 2, 3);
    }

    private static void onlySomeCharactersAreJoinedTo() {
        TextPipeline x = ranked();
        x.part(25, 0, 1, false);
        x.part(22, 0, 1, false);
        form("the least one", x, true, "22", 25);
        x.part(21, 0, 1, true);
        form("not an excluded one", x, true, "22", 21);
        x.set(22, 0, 1);
        form("not one that has a rank", x, true, "25", 22);
        x.part(25, 0, -1, false);
        form("none is left", x, true, "0 1", 0, 1);
        x.part(21, 0, 1, false);
        form("no more excluded", x, true, "21", 0, 1);
        x.part(21, -1, -1, false);
        x.part(26, 25, 1, false);
        form("only the next parts count", x, true, "0 1", 26);
        x.part(23, 0, -1, false);
        form("nothing joins to what has one part", x, true, "0", 23);
    }

    private static void joiningGoesOnWithWhatIsThere() {
        TextPipeline x = ranked();
        x.part(10, 0, 1, false);
        x.part(11, 10, 2, false);
        x.part(12, 11, 4, false);
        form("step by step", x, true, "12", 0, 4, 2, 1);
        form("as far as it goes", x, true, "11 2", 0, 2, 1, 2);
        x.part(13, 10, 5, false);
        form("a starter joins a joined one", x, true, "13 2", 0, 1, 5, 2);
        x.part(14, 13, 2, true);
        form("parted into four", x, false, "0 1 5 2", 14);
        form("joined but for the excluded", x, true, "13 2", 14);
    }

    private static void tooLongFormsAreRefused() {
        TextPipeline x = new TextPipeline();
        x.part(10, 1, 2, false);
        x.part(11, 10, 10, false);
        for (int i = 0; i < 40; i++) {
            x.type(11);
        }
        CHECK.fails("bring(false) to 160", Check.STATE, () -> x.bring(false));
        CHECK.fails("bring(true) to 80", Check.STATE, () -> x.bring(true));
        CHECK.due("a refused form: first", x.at(0), 11);
        CHECK.due("a refused form: last", x.at(39), 11);
        CHECK.due("a refused form: clusters()", x.clusters(), 40);
        x.part(11, -1, -1, false);
        x.wipe();
        for (int i = 0; i < 40; i++) {
            x.type(10);
        }
        CHECK.fails("bring(false) to 80", Check.STATE, () -> x.bring(false));
        CHECK.due("a longer form joins again", x.bring(true), 40);
        CHECK.due("a longer form joins again: last", x.at(39), 10);
        justLongEnough(x);
    }

    private static void justLongEnough(TextPipeline x) {
        x.wipe();
        for (int i = 0; i < 20; i++) {
            x.type(10);
        }
        CHECK.due("bring(false) to 40", x.bring(false), 40);
        CHECK.due("bring(true) to 20", x.bring(true), 20);
        x.type(0);
        CHECK.fails("bring(false) to 41", Check.STATE, () -> x.bring(false));
        CHECK.due("still 21", x.at(20), 0);
        CHECK.fails("still only 21", Check.INDEX, () -> x.at(21));
    }
}
