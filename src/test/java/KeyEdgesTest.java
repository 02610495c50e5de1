/** The edges of THE KEY and of promises 13 to 17, a run of calls for each sentence. */
public final class KeyEdgesTest {
    private static final Check CHECK = new Check();

    // 1 has all three weights, 2, 3 and 4 have one of them, 5 is 1 with a greater third one.
    private static final String WEIGHTS = """
            set 1 4 5; set 1 5 6; set 1 6 7; set 2 4 8; set 3 5 9; set 4 6 10; set 5 4 5
            set 5 5 6; set 5 6 8
            """;

    public static void main(String[] args) {
        key();
        keyOfThePartedForm();
        keyLengths();
        keyAt();
        keep();
        keepRefused();
        compare();
        compareBeginnings();
        compareAsTheTableIs();
        same();
        sameAsTheTableIs();
        slots();
        CHECK.end();
    }

    private static void run(String title, String calls) {
        Script.run(CHECK, title, WEIGHTS + calls);
    }

    private static void key() {
        run("the key of an empty text", """
                key = 2; weights = 0 0; keyAt 0 = 0; keyAt 1 = 0; keyAt 2 ! index
                """);
        run("the first weights, then 0, then the second ones, then 0, and the third ones", """
                text 1; key = 5; weights = 5 0 6 0 7; text 1 1; key = 8; weights = 5 5 0 6 6 0 7 7
                """);
        run("that are not 0", """
                text 0; key = 2; weights = 0 0; text 2; key = 3; weights = 8 0 0; text 3; key = 3
                weights = 0 9 0
                text 4; key = 3; weights = 0 0 10; text 0 2 0; weights = 8 0 0
                """);
        run("in their order", """
                text 1 2 3 4; weights = 5 8 0 6 9 0 7 10; text 4 3 2 1; weights = 8 5 0 9 6 0 10 7
                """);
        run("the least and the greatest weights", """
                set 0 4 1; set 0 5 999; set 0 6 1; text 0; weights = 1 0 999 0 1; set 0 4 0
                weights = 0 999 0 1
                set 0 5 0; weights = 0 0 1; set 0 6 0; weights = 0 0
                """);
    }

    private static void keyOfThePartedForm() {
        run("of its parted form: the parts, not what is parted", """
                part 9 1 2 false; set 9 4 99; set 9 5 99; set 9 6 99; text 9; weights = 5 8 0 6 0 7; is 9
                part 9 3 -1 false; weights = 0 9 0; part 9 -1 -1 false; weights = 99 0 99 0 99
                """);
        run("of its parted form: sorted by rank", """
                set 1 0 20; set 2 0 10; text 1 2; weights = 8 5 0 6 0 7; is 1 2; set 2 0 0
                weights = 5 8 0 6 0 7
                """);
        run("an excluded one is parted, too", "part 9 1 2 true; text 9; weights = 5 8 0 6 0 7");
        run("a syllable, the first one and the last one", """
                text 48; key = 8; weights = 1040 1043 0 1 1 0 1 1
                text 74; key = 11; weights = 1042 1045 1047 0 1 1 1 0 1 1 1
                """);
        run("asking for it leaves the text", """
                part 9 1 2 false; text 9 9; key = 10; keyAt 0 = 5; is 9 9
                """);
    }

    private static void keyLengths() {
        run("a full text", """
                fill 1 40; key = 122; keyAt 39 = 5; keyAt 40 = 0; keyAt 41 = 6; keyAt 81 = 0
                keyAt 121 = 7; keyAt 122 ! index
                """);
        run("a parted form of more than 40", """
                part 9 1 1 false; fill 9 40; bring false ! state; key = 242; keyAt 79 = 5; keyAt 80 = 0
                keyAt 161 = 0; keyAt 241 = 7; keyAt 242 ! index
                """);
        run("a parted form of 160", """
                part 9 1 1 false; part 10 9 9 false; fill 10 40; key = 482; keyAt 0 = 5; keyAt 159 = 5
                keyAt 160 = 0; keyAt 161 = 6; keyAt 320 = 6; keyAt 321 = 0; keyAt 322 = 7; keyAt 481 = 7
                keyAt 482 ! index
                """);
        run("40 syllables", """
                fill 74 40; key = 362; keyAt 119 = 1047; keyAt 120 = 0; keyAt 361 = 1
                keyAt 362 ! index
                """);
    }

    private static void keyAt() {
        run("number i of the text's key", """
                text 1; keyAt 0 = 5; keyAt 1 = 0; keyAt 2 = 6; keyAt 3 = 0; keyAt 4 = 7
                """);
        run("keyAt: there is none", """
                keyAt -1 ! index; keyAt 2 ! index; keyAt min ! index; keyAt max ! index; text 1
                keyAt -1 ! index; keyAt 5 ! index; keyAt 4 = 7; is 1; wipe; keyAt 4 ! index
                keyAt 2 ! index
                """);
    }

    private static void keep() {
        run("the text is kept", "text 1 2; keep 0; same 0 = true; compare 0 = 0; is 1 2");
        run("what comes behind the text later is not", """
                text 1; keep 0; type 2; same 0 = false; compare 0 = 1; is 1 2
                """);
        run("it is kept when the text is wiped or brought", """
                part 9 1 2 false; set 2 0 7; text 9; keep 0; bring false = 2; same 0 = true; wipe
                same 0 = false; compare 0 = -1; text 9; same 0 = true
                """);
        run("an empty text is kept, too", """
                text 1; keep 0; wipe; keep 0; same 0 = true; compare 0 = 0; type 1; same 0 = false
                compare 0 = 1
                """);
        run("a shorter text where a longer one was kept", """
                text 1 2 3; keep 0; text 1; keep 0; same 0 = true; compare 0 = 0; type 2; same 0 = false
                """);
        run("a full text is kept", """
                fill 1 39; type 5; keep 3; same 3 = true; compare 3 = 0; wipe; fill 1 40; same 3 = false
                compare 3 = -1; wipe; fill 1 39; same 3 = false; compare 3 = -1; type 5; same 3 = true
                """);
        run("the same text in two slots", """
                text 1; keep 0; keep 1; text 2; keep 1; text 1; same 0 = true; same 1 = false
                """);
    }

    private static void keepRefused() {
        for (String k : "-1 4 5 40 min max".split(" ")) {
            run("keep: there is none, and nothing changes", """
                    text 1; keep 0; keep 1; keep 2; keep 3; text 2; keep K ! index; is 2; same 0 = false
                    same 1 = false; same 2 = false; same 3 = false; text 1; same 0 = true; same 1 = true
                    same 2 = true; same 3 = true
                    """.replace("K", k));
            run("compare and same: there is none", """
                    compare K ! index; same K ! index; text 1; keep 0; keep 3; compare K ! index
                    same K ! index; is 1; same 0 = true; compare 3 = 0
                    """.replace("K", k));
        }
    }

    private static void compare() {
        run("-1, 0 or 1", """
                set 6 4 999; text 6; keep 0; text 1; compare 0 = -1; keep 1; compare 1 = 0; text 6
                compare 1 = 1
                text 74; compare 0 = 1
                """);
        run("number by number: the first ones decide", """
                text 5; keep 0; text 2; compare 0 = 1; text 3; compare 0 = -1
                """);
        run("then the second ones", """
                set 6 4 5; set 6 5 7; set 6 6 1; text 6; keep 0; text 5; compare 0 = -1; keep 1
                text 6; compare 1 = 1
                """);
        run("then the third ones", """
                text 1; keep 0; text 5; compare 0 = 1; keep 1; text 1; compare 1 = -1
                """);
        run("the numbers in their order", """
                text 1 2; keep 0; text 2 1; compare 0 = 1; keep 1; text 1 2; compare 1 = -1
                """);
        run("equal keys of different texts", """
                text 2 3; keep 0; text 3 2; compare 0 = 0; same 0 = false; text 0 2 0 3; compare 0 = 0
                set 7 4 8; text 7 3; compare 0 = 0
                """);
        run("far apart", """
                set 6 4 1; text 6; keep 0; set 7 4 999; text 7; compare 0 = 1; text 47
                compare 0 = 1; keep 1; text 6; compare 1 = -1
                """);
    }

    private static void compareBeginnings() {
        run("one that the other one begins with is the lesser one", """
                text 4; keep 0; text 4 4; compare 0 = 1; keep 1; text 4; compare 1 = -1
                """);
        run("the key of an empty text, which another one begins with", """
                text 4; compare 0 = 1; keep 1; wipe; compare 1 = -1; compare 0 = 0
                """);
        run("the key of an empty text is less than any other one", """
                text 1; compare 0 = 1; text 2; compare 0 = 1; text 3; compare 0 = 1; text 40
                compare 0 = 1
                text 0; compare 0 = 0
                """);
        run("the 0 between the weights is less than a weight", """
                text 1; keep 0; text 1 1; compare 0 = 1; keep 1; text 1; compare 1 = -1; text 3; keep 2
                text 3 3; compare 2 = 1; text 3 4; compare 2 = 1
                """);
        run("the longest keys", """
                part 9 4 4 false; part 10 9 9 false; fill 10 40; keep 0; compare 0 = 0
                same 0 = true; wipe
                fill 10 39; type 9; compare 0 = -1; same 0 = false; keep 1; wipe; fill 10 40
                compare 1 = 1
                """);
    }

    private static void compareAsTheTableIs() {
        run("as the table is now: a weight that changed", """
                text 1; keep 0; text 2; compare 0 = 1; set 1 4 9; compare 0 = -1; set 2 4 9
                set 1 5 0; set 1 6 0
                compare 0 = 0
                """);
        run("as the table is now: a rank that changed", """
                text 1 2; keep 0; text 2 1; compare 0 = 1; set 1 0 20; set 2 0 10; compare 0 = 0
                """);
        run("as the table is now: a parting that changed", """
                text 9; keep 0; text 1; compare 0 = 1; part 9 1 -1 false; compare 0 = 0; part 9 1 1 false
                compare 0 = -1; part 9 -1 -1 false; compare 0 = 1
                """);
        for (int k = 0; k < 4; k++) {
            run("at first a slot keeps an empty text", """
                    compare K = 0; same K = true; text 4; compare K = 1; same K = false; text 0
                    compare K = 0
                    same K = false; wipe; compare K = 0; same K = true
                    """.replace("K", "" + k));
        }
    }

    private static void same() {
        run("the same parted form", """
                part 9 1 2 false; text 9; keep 0; text 1 2; same 0 = true; keep 1; text 9
                same 1 = true; is 9
                part 10 9 -1 true; text 10; same 0 = true; same 1 = true
                """);
        run("sorted by rank", """
                set 1 0 20; set 2 0 10; text 0 1 2; keep 0; text 0 2 1; same 0 = true; text 2 0 1
                same 0 = false
                """);
        run("equal ranks are not sorted", """
                set 1 0 20; set 2 0 20; text 0 1 2; keep 0; text 0 2 1; same 0 = false
                """);
        run("the characters, not the keys", """
                text 0; same 0 = false; compare 0 = 0; keep 0; text 39; same 0 = false; compare 0 = 0
                """);
        run("one that the other one begins with is not the same", """
                text 1 2; keep 0; text 1; same 0 = false; text 1 2 3; same 0 = false; wipe; same 0 = false
                text 1 2; same 0 = true
                """);
        run("another last character", """
                text 1 2 3; keep 0; text 1 2 4; same 0 = false; text 4 2 3; same 0 = false
                """);
        run("syllables and their parts", """
                text 48; keep 0; text 40 43; same 0 = true; text 74; keep 1; text 42 45 47; same 1 = true
                text 72 47; same 1 = true; text 72; same 1 = false; text 73; same 1 = false
                """);
        run("parted forms of more than 40", """
                part 9 1 1 false; part 10 9 9 false; fill 10 40; keep 0; same 0 = true
                bring false ! state
                wipe; fill 10 39; type 9; type 9 ! state; same 0 = false
                """);
        run("asking leaves the text", """
                part 9 1 2 false; text 9 0; keep 0; same 0 = true; compare 0 = 0; is 9 0
                """);
    }

    private static void sameAsTheTableIs() {
        run("a table that changed after a text was kept: a parting", """
                text 9; keep 0; text 1 2; same 0 = false; part 9 1 2 false; same 0 = true
                part 9 1 -1 false
                same 0 = false; part 9 -1 -1 false; same 0 = false
                """);
        run("a table that changed after a text was kept: a rank", """
                text 1 2; keep 0; text 2 1; same 0 = false; set 1 0 20; set 2 0 10; same 0 = true
                set 1 0 0; same 0 = false
                """);
        run("the text is kept, not its form", """
                part 9 1 2 false; text 9; keep 0; part 9 -1 -1 false; text 1 2; same 0 = false; text 9
                same 0 = true
                """);
        run("weights and classes are nothing to it", """
                text 1; keep 0; set 1 4 9; set 1 1 3; set 1 3 1; set 1 2 5; same 0 = true
                """);
    }

    private static void slots() {
        run("slots 0 .. 3, each by itself", """
                text 40; keep 0; text 41; keep 1; text 42; keep 2; text 43; keep 3; text 41; compare 0 = 1
                compare 1 = 0; compare 2 = -1; compare 3 = -1; same 0 = false; same 1 = true
                same 2 = false
                same 3 = false; text 43; same 3 = true; same 0 = false; text 40; same 0 = true
                same 3 = false
                """);
        run("one slot leaves the others as they were", """
                text 4; keep 1; wipe; compare 0 = 0; compare 1 = -1; compare 2 = 0; compare 3 = 0
                """);
    }
}
