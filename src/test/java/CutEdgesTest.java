/** The edges of CLUSTERS and LINES and of promises 8 to 10, a run of calls for each sentence. */
public final class CutEdgesTest {
    private static final Check CHECK = new Check();

    // Each character has the class of its own number: 0 to 9 for clusters, 0 to 12 for lines.
    private static final String CLUSTERS = classes(1, 9);
    private static final String LINES = classes(2, 12);

    public static void main(String[] args) {
        clusterPlaces();
        clusterCounts();
        returnsAndFeeds();
        leadsVowelsTails();
        attached();
        pictures();
        regions();
        linePlaces();
        marks();
        firstLineRules();
        lineRulesOverSpaces();
        lineRulesSideBySide();
        CHECK.end();
    }

    private static String classes(int what, int greatest) {
        StringBuilder all = new StringBuilder();
        for (int c = 0; c <= greatest; c++) {
            all.append("set ").append(c).append(' ').append(what).append(' ').append(c).append('\n');
        }
        return all.toString();
    }

    private static void cut(String title, String calls) {
        Script.run(CHECK, title, CLUSTERS + calls);
    }

    private static void lines(String title, String calls) {
        Script.run(CHECK, title, LINES + calls);
    }

    private static void clusterPlaces() {
        cut("cluster: true for 0 and its length", """
                text 4; cuts = 11; text 7; cuts = 11; text 4 4; cuts = 101; text 7 7; cuts = 101
                text 2; cuts = 11; text 46; cuts = 11; text 5 9; cluster 0 = true; cluster 2 = true
                """);
        cut("cluster: an empty text", """
                cluster 0 = true; cluster 1 ! index; cluster -1 ! index; text 4; wipe
                cluster 0 = true; cluster 1 ! index
                """);
        cut("cluster: there is no such place", """
                text 4 4; cluster -1 ! index; cluster 3 ! index; cluster min ! index; cluster max ! index
                cluster 2 = true; cluster 1 = false; is 4 4
                """);
        cut("cluster: a full text", """
                fill 4 40; cluster 0 = true; cluster 1 = false; cluster 39 = false; cluster 40 = true
                cluster 41 ! index; cluster -1 ! index
                """);
    }

    private static void clusterCounts() {
        cut("clusters: of an empty text", "clusters = 0; text 0; wipe; clusters = 0");
        cut("clusters: of one character", """
                text 0; clusters = 1; text 4; clusters = 1; text 74; clusters = 1
                """);
        cut("clusters: of a full text", """
                fill 0 40; clusters = 40; wipe; fill 4 40; clusters = 1; wipe; fill 7 40; clusters = 1
                wipe; fill 3 40; clusters = 40; wipe; fill 6 40; clusters = 20; wipe; fill 6 39
                clusters = 20
                """);
        cut("clusters: some of each", """
                text 1 2 0 4 7 0 40 43 46 6 6 6; cuts = 1010101001011; clusters = 6
                """);
    }

    private static void returnsAndFeeds() {
        cut("RETURN, FEED: not, though both are of those that end", """
                text 1 2; cuts = 101; clusters = 1
                """);
        cut("RETURN, FEED: in this order, and each once", """
                text 2 1; cuts = 111; text 1 1 2; cuts = 1101; text 1 2 2; cuts = 1011
                text 1 2 1 2; cuts = 10101
                """);
        for (int alone = 1; alone <= 3; alone++) {
            for (String other : "0 3 4 5 6 7 8 9 40 43 46 48 49".split(" ")) {
                cut("one of both RETURN, FEED or CONTROL: an end, whatever the other one is",
                        "text A O; cuts = 111; text O A; cuts = 111".replace("A", "" + alone)
                                .replace("O", other));
            }
        }
        cut("between what would hold together", """
                text 9 5 3 9; cuts = 10111; text 9 3 5 9; cuts = 11111; text 6 3 6; cuts = 1111
                text 40 3 43; cuts = 1111; text 7 3 0; cuts = 1111
                """);
    }

    private static void leadsVowelsTails() {
        cut("a lead and then a lead, a vowel or a syllable: not", """
                text 40 40; cuts = 101; text 40 42; cuts = 101; text 42 40; cuts = 101; text 40 43
                cuts = 101
                text 42 45; cuts = 101; text 40 48; cuts = 101; text 42 49; cuts = 101; text 42 74
                cuts = 101
                """);
        cut("a lead and then a tail: an end", "text 40 46; cuts = 111; text 42 47; cuts = 111");
        cut("a vowel or a syllable without a tail, and then a vowel or a tail: not", """
                text 43 45; cuts = 101; text 45 43; cuts = 101; text 43 46; cuts = 101; text 45 47
                cuts = 101
                text 48 43; cuts = 101; text 48 46; cuts = 101; text 72 45; cuts = 101; text 72 47
                cuts = 101
                """);
        cut("a vowel or such a syllable, and then a lead or a syllable: an end", """
                text 43 40; cuts = 111; text 45 42; cuts = 111; text 43 48; cuts = 111; text 45 74
                cuts = 111
                text 48 40; cuts = 111; text 72 42; cuts = 111; text 48 48; cuts = 111; text 72 74
                cuts = 111
                """);
        cut("a tail or a syllable with one, and then a tail: not", """
                text 46 47; cuts = 101; text 47 46; cuts = 101; text 49 46; cuts = 101; text 50 47
                cuts = 101
                text 73 46; cuts = 101; text 74 47; cuts = 101
                """);
        cut("a tail or such a syllable, and then anything else: an end", """
                text 46 40; cuts = 111; text 47 43; cuts = 111; text 46 48; cuts = 111; text 47 74
                cuts = 111
                text 49 40; cuts = 111; text 50 43; cuts = 111; text 73 72; cuts = 111; text 74 74
                cuts = 111
                text 74 45; cuts = 111
                """);
        cut("characters of the table are none of these", """
                text 39 43; cuts = 111; text 40 39; cuts = 111; text 39 46; cuts = 111; text 43 0
                cuts = 111
                text 46 39; cuts = 111; text 39 40; cuts = 111; text 39 48; cuts = 111
                """);
        cut("only side by side", """
                text 40 4 43; cuts = 1011; text 48 5 46; cuts = 1011; text 46 8 46; cuts = 1011
                """);
    }

    private static void attached() {
        for (String x : "0 4 5 6 7 8 9 39 40 43 46 48 49".split(" ")) {
            cut("y EXTEND, JOINER or SPACING: not",
                    "text X 4; cuts = 101; text X 5; cuts = 101; text X 8; cuts = 101".replace("X", x));
        }
        for (String y : "0 4 5 6 7 8 9 39 40 43 46 48 49".split(" ")) {
            cut("x PREPEND: not", "text 7 Y; cuts = 101; text 0 7 Y; cuts = 1101".replace("Y", y));
        }
        cut("x EXTEND, JOINER or SPACING, or y PREPEND: an end", """
                text 4 0; cuts = 111; text 5 0; cuts = 111; text 8 0; cuts = 111; text 0 7; cuts = 111
                text 4 7; cuts = 111; text 9 7; cuts = 111; text 40 7; cuts = 111
                """);
    }

    private static void pictures() {
        cut("a PICTURE, a JOINER, a PICTURE: not", "text 9 5 9; cuts = 1001; clusters = 1");
        cut("over any EXTENDs", """
                text 9 4 5 9; cuts = 10001; text 9 4 4 4 5 9; cuts = 1000001; wipe
                type 9; fill 4 37; type 5; type 9 = 40; cluster 39 = false; clusters = 1
                """);
        cut("over EXTENDs alone", """
                text 9 8 5 9; cuts = 10011; text 9 5 5 9; cuts = 10011; text 9 5 4 9; cuts = 10011
                text 9 4 8 5 9; cuts = 100011; text 9 0 5 9; cuts = 11011
                """);
        cut("at the beginning of a text: there is no PICTURE in front", """
                text 5 9; cuts = 111; text 4 5 9; cuts = 1011; text 4 4 5 9; cuts = 10011; wipe
                fill 4 38; type 5; type 9; cluster 39 = true; clusters = 2
                """);
        cut("another one than a PICTURE in front", """
                text 0 5 9; cuts = 1011; text 6 4 5 9; cuts = 10011; text 40 5 9; cuts = 1011
                text 7 5 9; cuts = 1011; text 8 5 9; cuts = 1011
                """);
        cut("y is no PICTURE, or x no JOINER", """
                text 9 5 0; cuts = 1011; text 9 5 6; cuts = 1011; text 9 5 40; cuts = 1011
                text 9 9; cuts = 111
                text 9 4 9; cuts = 1011; text 9 5 7; cuts = 1011
                """);
        cut("one after another", "text 9 5 9 5 9 4 5 9 9; cuts = 1000000011; clusters = 2");
    }

    private static void regions() {
        cut("an odd number of REGIONs that end with x: not", """
                text 6 6; cuts = 101; text 6 6 6; cuts = 1011; text 6 6 6 6; cuts = 10101
                text 6 6 6 6 6; cuts = 101011
                """);
        cut("x or y alone is REGION: an end", """
                text 6 0; cuts = 111; text 0 6; cuts = 111; text 6 9; cuts = 111; text 9 6; cuts = 111
                text 6 40; cuts = 111; text 46 6; cuts = 111
                """);
        cut("side by side: counted from the last other one", """
                text 6 0 6 6; cuts = 11101; text 6 4 6 6; cuts = 10101; text 6 6 4 6 6 6; cuts = 1001011
                text 3 6 6 6; cuts = 11011; text 7 6 6 6; cuts = 10011; text 5 6 6; cuts = 1101
                """);
        cut("40 of them", """
                fill 6 40; cluster 1 = false; cluster 2 = true; cluster 38 = true; cluster 39 = false
                cluster 40 = true; clusters = 20
                """);
    }

    private static void linePlaces() {
        for (int c = 0; c <= 12; c++) {
            lines("line: 0 for 0, and at the end of a text it must",
                    "text C; lines = 02; text 0 C; line 2 = 2; line 0 = 0".replace("C", "" + c));
        }
        lines("line: an empty text", """
                lines = 0; line 1 ! index; line -1 ! index; text 1; wipe; lines = 0
                """);
        lines("line: there is no such place", """
                text 0 0; line -1 ! index; line 3 ! index; line min ! index; line max ! index; line 2 = 2
                line 1 = 0; line 0 = 0; is 0 0
                """);
        lines("line: a full text", """
                fill 0 40; line 0 = 0; line 1 = 0; line 39 = 0; line 40 = 2; line 41 ! index; wipe
                fill 1 40; line 0 = 0; line 1 = 2; line 39 = 2; line 40 = 2; wipe
                fill 10 40; line 0 = 0; line 1 = 1; line 39 = 1; line 40 = 2
                """);
    }

    private static void marks() {
        lines("a MARK at the beginning is ALPHA", """
                text 11; lines = 02; text 11 0; lines = 002; text 11 9; lines = 002; text 11 5
                lines = 002
                text 11 10; lines = 012; text 11 11 5; lines = 0002; text 11 11 10; lines = 0012
                """);
        lines("a MARK behind END, SPACE or ZERO is ALPHA", """
                text 1 11 9; lines = 0202; text 1 11 10; lines = 0212; text 2 11 9; lines = 0102
                text 2 11 10; lines = 0112; text 3 11 9; lines = 0102; text 3 11 10; lines = 0112
                text 0 2 11 5; lines = 00102
                """);
        lines("a MARK behind another character has the class of that one", """
                text 4 11 10; lines = 0002; text 5 11 10; lines = 0002; text 6 11 5; lines = 0012
                text 6 11 0; lines = 0002; text 7 11 10; lines = 0002; text 8 11 0; lines = 0012
                text 8 11 9; lines = 0002; text 9 11 5; lines = 0002; text 10 11 0; lines = 0012
                text 12 11 0; lines = 0002; text 12 11 5; lines = 0012; text 40 11 0; lines = 0012
                """);
        lines("of what it has here: a MARK behind a MARK", """
                text 10 11 11 11 0; lines = 000012; text 4 11 11 10; lines = 00002
                text 2 11 11 10; lines = 01012; text 8 11 11 9; lines = 00002
                """);
        lines("a MARK over SPACEs", """
                text 5 11 2 10; lines = 00002; text 7 11 2 5; lines = 00002; text 3 11 2 4; lines = 01002
                text 5 2 11 10; lines = 00012
                """);
        lines("a whole text of MARKs", """
                type 10; fill 11 38; type 0 = 40; line 1 = 0; line 38 = 0; line 39 = 1; line 40 = 2
                wipe; fill 11 40; line 1 = 0; line 39 = 0
                """);
        lines("y is a MARK that has the class of x: not, where two of that class may", """
                text 10 10; lines = 012; text 10 11; lines = 002; text 40 11; lines = 002
                text 10 11 10; lines = 0012
                """);
    }

    private static void firstLineRules() {
        for (int y = 0; y <= 12; y++) {
            lines("x END: must, whatever y is", "text 1 Y; lines = 022; text 0 1 Y; lines = 0022"
                    .replace("Y", "" + y));
        }
        for (int x : new int[] {0, 2, 3, 4, 5, 6, 7, 8, 9, 10, 11, 12}) {
            lines("y END, SPACE or ZERO: not, whatever x is but END",
                    "text X 1; lines = 002; text X 2; lines = 002; text X 3; lines = 002".replace("X", "" + x));
        }
        for (int y : new int[] {0, 4, 5, 6, 7, 8, 9, 10, 11, 12}) {
            lines("over any SPACEs there is a ZERO: may, whatever y is but END, SPACE or ZERO",
                    "text 3 Y; lines = 012; text 3 2 Y; lines = 0012; text 0 3 2 2 2 Y; lines = 0000012"
                            .replace("Y", "" + y));
        }
        lines("a ZERO behind which another one is does not count", """
                text 3 0 4; lines = 0102; text 3 4 2 4; lines = 01002; text 3 2 0 0; lines = 00102
                text 3 2 5 2 0; lines = 001002
                """);
        lines("a ZERO over all SPACEs of a full text", """
                type 3; fill 2 38; type 4 = 40; line 39 = 1; line 38 = 0
                """);
    }

    private static void lineRulesOverSpaces() {
        for (int other : new int[] {0, 4, 5, 6, 7, 8, 9, 10, 11, 12}) {
            lines("x or y GLUE: not", "text 4 O; lines = 002; text O 4; lines = 002".replace("O", "" + other));
            lines("y CLOSE or COMMA: not",
                    "text O 6; lines = 002; text O 12; lines = 002".replace("O", "" + other));
            lines("over any SPACEs there is an OPEN: not",
                    "text 5 O; lines = 002; text 5 2 O; lines = 0002; text 5 2 2 2 O; lines = 000002"
                            .replace("O", "" + other));
        }
        lines("y GLUE, CLOSE or COMMA behind a SPACE: not", """
                text 0 2 4; lines = 0002; text 0 2 6; lines = 0002; text 0 2 12; lines = 0002
                text 2 4; lines = 002; text 2 6; lines = 002; text 2 12; lines = 002
                """);
        lines("GLUE over SPACEs is nothing", "text 4 2 0; lines = 0012; text 4 2 10; lines = 0012");
        lines("over any SPACEs there is a QUOTE, and y is OPEN: not", """
                text 7 5; lines = 002; text 7 2 5; lines = 0002; text 7 2 2 2 5; lines = 000002
                text 7 2 0; lines = 0012; text 7 2 7; lines = 0012; text 0 2 5; lines = 0012
                """);
        lines("x SPACE: may, whatever stands further in front and behind", """
                text 0 2 0; lines = 0012; text 9 2 9; lines = 0012; text 0 2 7; lines = 0012
                text 0 2 8; lines = 0012; text 8 2 9; lines = 0012; text 12 2 0; lines = 0012
                text 6 2 0; lines = 0012; text 0 2 5; lines = 0012; text 10 2 10; lines = 0012
                text 1 2 0; lines = 0212
                """);
        lines("SPACEs at the beginning: nothing is in front of them", """
                text 2 0; lines = 012; text 2 2 2 5; lines = 00012; text 2 7; lines = 012
                text 2 8; lines = 012
                text 2 11; lines = 012; wipe; fill 2 39; type 5; line 39 = 1; line 38 = 0
                """);
        lines("an OPEN over all SPACEs of a full text", "type 5; fill 2 38; type 10 = 40; line 39 = 0");
        lines("an OPEN behind which another one is does not count", "text 5 0 2 0; lines = 00012");
    }

    private static void lineRulesSideBySide() {
        lines("x or y QUOTE: not", """
                text 7 0; lines = 002; text 0 7; lines = 002; text 7 10; lines = 002; text 10 7
                lines = 002
                text 7 7; lines = 002; text 6 7; lines = 002; text 7 8; lines = 002; text 8 7; lines = 002
                """);
        lines("y HYPHEN: not", """
                text 0 8; lines = 002; text 8 8; lines = 002; text 9 8; lines = 002; text 10 8
                lines = 002
                text 12 8; lines = 002; text 6 8; lines = 002; text 40 8; lines = 002
                """);
        lines("x HYPHEN or COMMA, y DIGIT: not", """
                text 8 9; lines = 002; text 12 9; lines = 002; text 8 0; lines = 012; text 8 10
                lines = 012
                text 8 5; lines = 012; text 10 9; lines = 012
                """);
        lines("x and y are ALPHA or DIGIT: not", """
                text 0 0; lines = 002; text 0 9; lines = 002; text 9 0; lines = 002; text 9 9; lines = 002
                text 0 10; lines = 012; text 9 10; lines = 012; text 10 0; lines = 012; text 10 10
                lines = 012
                """);
        lines("x COMMA, y ALPHA: not", """
                text 12 0; lines = 002; text 12 5; lines = 012; text 12 10; lines = 012
                """);
        lines("x ALPHA or DIGIT, y OPEN: not", """
                text 0 5; lines = 002; text 9 5; lines = 002; text 10 5; lines = 012; text 6 5
                lines = 012
                """);
        lines("x CLOSE, y ALPHA or DIGIT: not", """
                text 6 0; lines = 002; text 6 9; lines = 002; text 6 10; lines = 012; text 6 5
                lines = 012
                """);
        lines("otherwise may", """
                text 10 10; lines = 012; text 40 48; lines = 012; text 39 74; lines = 012
                text 74 39; lines = 012
                """);
    }
}
