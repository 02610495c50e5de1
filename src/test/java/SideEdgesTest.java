/** The edges of SIDES and of promises 11 and 12, a run of calls for each sentence. */
public final class SideEdgesTest {
    private static final Check CHECK = new Check();

    // Each character from 0 to 11 has the side class of its own number.
    private static final String CLASSES = classes();
    private static final String[] NO_BASES = {"2", "-1", "3", "40", "min", "max"};

    public static void main(String[] args) {
        characters();
        theBase();
        theBaseStandsAround();
        none();
        arabs();
        signs();
        units();
        numbersBehindLeft();
        neutrals();
        levels();
        tabsAndWhites();
        order();
        orderRows();
        CHECK.end();
    }

    private static String classes() {
        StringBuilder all = new StringBuilder();
        for (int c = 0; c < 12; c++) {
            all.append("set ").append(c).append(" 3 ").append(c).append('\n');
        }
        return all.toString();
    }

    private static void run(String title, String calls) {
        Script.run(CHECK, title, CLASSES + calls);
    }

    private static void characters() {
        for (String call : "level order".split(" ")) {
            for (String base : "0 1 2 -1 min max".split(" ")) {
                run(call + ": there is none", """
                        C 0 B ! index; text 1 0 3; C -1 B ! index; C 3 B ! index; C min B ! index
                        C max B ! index; C 40 B ! index; C 2 B; C 0 B; is 1 0 3; wipe; C 0 B ! index
                        """.replace("C", call).replace("B", base));
                run(call + ": a full text", "fill 1 40; C 0 B; C 39 B; C 40 B ! index; C -1 B ! index"
                        .replace("C", call).replace("B", base));
            }
        }
    }

    private static void theBase() {
        run("the base as asked for, whatever the text has", """
                text 0; levels 0 = 0; levels 1 = 2; text 1; levels 0 = 1; levels 1 = 1; text 2
                levels 0 = 1
                text 9; levels 0 = 0; levels 1 = 1; text 1 9 0; levels 0 = 100; levels 1 = 112
                text 0 9 1; levels 0 = 001; levels 1 = 211
                """);
        for (String base : NO_BASES) {
            run("or by the first of its LEFT, RIGHT and ARAB", """
                    text 0 9 1; levels B = 001; text 1 9 0; levels B = 112; text 2 9 0; levels B = 112
                    text 0 9 2; levels B = 001; text 9 1 0; levels B = 112; text 3 6 2 0; levels B = 2212
                    text 9 0 1; levels B = 001; text 11 10 4 1 0; levels B = 11112; text 48 1
                    levels B = 01
                    """.replace("B", base));
            run("0 if there is none", """
                    text 3; levels B = 0; text 9; levels B = 0; text 10; levels B = 0; text 11
                    levels B = 0
                    text 8; levels B = 0; text 6 9; levels B = 20; text 6 11 6; levels B = 212
                    text 3 4 5 6 7 8 9 10 11; levels B = 000200000; orders B = 0 1 2 3 4 5 6 7 8
                    """.replace("B", base));
            run("the first one may be the last one of the text",
                    "fill 11 39; type 1; level 0 B = 1; level 39 B = 1; wipe; fill 11 39; type 0; level 0 B = 0"
                            .replace("B", base));
        }
        run("by the table: a NONE in front does not count", """
                text 8 1; levels 2 = 11; text 8 0; levels 2 = 00
                """);
    }

    private static void theBaseStandsAround() {
        run("it stands in front of the text", """
                text 11 0; levels 0 = 00; levels 1 = 12; text 11 1; levels 0 = 01; levels 1 = 11
                text 11 6; levels 0 = 02; levels 1 = 12; text 3; levels 0 = 0; levels 1 = 2
                text 8; levels 0 = 0; levels 1 = 1
                """);
        run("and behind it", """
                text 0 11; levels 0 = 00; levels 1 = 21; text 1 11; levels 0 = 10; levels 1 = 11
                text 6 11; levels 0 = 20; levels 1 = 21; text 1 3 11; levels 0 = 120; levels 1 = 121
                """);
        run("it is no ARAB, and no NUMBER", """
                text 3 4 3; levels 1 = 222; text 4 3; levels 1 = 12; text 3 4; levels 1 = 21
                text 5; levels 0 = 0; levels 1 = 1; text 7 6; levels 1 = 12; text 6 7; levels 1 = 21
                """);
        run("it stands behind a full text", """
                fill 11 40; level 39 0 = 0; level 39 1 = 1; level 0 0 = 0; level 0 1 = 1
                """);
    }

    private static void none() {
        run("NONE becomes what is in front of it", """
                text 0 8; levels 0 = 00; levels 1 = 22; text 1 8; levels 0 = 11; levels 1 = 11
                text 2 8; levels 0 = 11; text 6 8; levels 0 = 22; text 1 3 8; levels 0 = 122
                """);
        run("at the beginning: the base", """
                text 8 1; levels 0 = 01; levels 1 = 11; text 8 8 0; levels 1 = 112
                """);
        run("from left to right: NONE behind NONE", """
                text 1 8 8 8 0; levels 0 = 11110; text 6 8 8; levels 1 = 222
                """);
        run("in front, not behind", "text 0 8 1; levels 0 = 001; levels 1 = 221");
        run("behind ARAB it is ARAB for numbers", """
                text 2 8 3 4 3; levels 0 = 11212; text 2 1 8 3 4 3; levels 0 = 111222
                """);
        run("behind NUMBER, SIGNED, UNIT and POINT", """
                text 1 3 8 4 3; levels 0 = 12222; text 1 3 4 8 3; levels 0 = 12112
                text 1 5 8 3; levels 0 = 1222; text 1 3 7 8 3; levels 0 = 12112; text 1 6 8 7 6
                levels 0 = 12222
                text 1 3 5 8; levels 0 = 1222
                """);
        run("behind WHITE, TAB and OTHER", """
                text 1 9 8 1; levels 0 = 1111; text 1 10 8 1; levels 0 = 1011; text 1 11 8 1
                levels 0 = 1111
                text 0 9 8 0; levels 1 = 2222; text 0 10 8 0; levels 1 = 2122
                """);
        run("a full text of NONE", "fill 8 40; level 39 0 = 0; level 39 1 = 1; level 0 2 = 0");
    }

    private static void arabs() {
        run("NUMBER becomes ARABNUMBER if the nearest in front is ARAB", """
                text 2 3 4 3; levels 0 = 1212; text 1 3 4 3; levels 0 = 1222; text 2 3 7 3
                levels 0 = 1222
                text 2 3 5; levels 1 = 121; text 1 3 5; levels 1 = 122
                """);
        run("the nearest of LEFT, RIGHT and ARAB", """
                text 2 1 3 4 3; levels 0 = 11222; text 1 2 3 4 3; levels 0 = 11212; text 2 0 3
                levels 0 = 100
                text 0 2 3; levels 0 = 012; text 2 40 3; levels 0 = 100
                """);
        run("over all other classes", "text 2 3 4 5 6 7 9 10 11 8 3 4 3; levels 1 = 1211211111212");
        run("in front, not behind", "text 3 2; levels 0 = 01; text 3 4 3 2; levels 1 = 2221");
        run("at the beginning there is no ARAB", "text 3; levels 0 = 0; text 3 5; levels 1 = 22");
        run("the first one of a full text is ARAB", """
                type 2; fill 9 36; type 3; type 4; type 3 = 40; level 37 0 = 2; level 38 0 = 1
                level 39 0 = 2
                """);
        run("ARAB becomes RIGHT", """
                text 2; levels 0 = 1; levels 1 = 1; text 2 11 2; levels 0 = 111; text 1 11 2
                levels 0 = 111
                text 0 11 2; levels 0 = 001; levels 1 = 211
                """);
    }

    private static void signs() {
        run("SIGNED between two NUMBERs becomes NUMBER", """
                text 1 3 4 3; levels 0 = 1222; text 1 3 4 3 5; levels 1 = 12222
                """);
        run("POINT between two NUMBERs becomes NUMBER", """
                text 1 3 7 3; levels 0 = 1222; text 1 3 7 3 5; levels 1 = 12222
                """);
        run("POINT between two ARABNUMBERs becomes that", """
                text 1 6 7 6; levels 0 = 1222; text 1 6 7 6 5; levels 1 = 12221; text 0 6 7 6
                levels 0 = 0222
                """);
        run("SIGNED between two ARABNUMBERs does not", "text 1 6 4 6; levels 0 = 1212");
        run("between a NUMBER and an ARABNUMBER neither does", """
                text 1 3 4 6; levels 0 = 1212; text 1 6 4 3; levels 0 = 1212; text 1 3 7 6
                levels 0 = 1212
                text 1 6 7 3; levels 0 = 1212
                """);
        run("two side by side do not", """
                text 1 3 4 4 3; levels 0 = 12112; text 1 3 7 7 3; levels 0 = 12112; text 1 3 4 7 3
                levels 0 = 12112
                text 1 6 7 7 6; levels 0 = 12112
                """);
        run("from left to right, each between two", "text 1 3 4 3 7 3 4 3; levels 0 = 12222222");
        run("at the beginning and at the end of a text they do not", """
                text 4 3; levels 1 = 12; text 7 3; levels 1 = 12; text 3 4; levels 1 = 21
                text 3 7; levels 1 = 21
                text 4; levels 0 = 0; levels 1 = 1; text 7; levels 0 = 0; levels 1 = 1; text 7 6
                levels 0 = 02
                """);
        run("before UNITs become NUMBER", """
                text 1 3 7 5 3; levels 0 = 12122; text 1 3 5 4 3; levels 0 = 12212
                """);
        run("SIGNED, UNIT and POINT become OTHER", """
                text 1 4 1; levels 0 = 111; text 1 5 1; levels 0 = 111; text 1 7 1; levels 0 = 111
                text 0 4 0; levels 1 = 222; text 0 5 0; levels 1 = 222; text 0 7 0; levels 1 = 222
                text 1 4 5 7 9 1; levels 0 = 111111
                """);
    }

    private static void units() {
        run("UNITs become NUMBER if there is a NUMBER in front of them", """
                text 1 3 5; levels 0 = 122; text 1 3 5 5 5; levels 0 = 12222; levels 1 = 12222
                """);
        run("or behind them", """
                text 1 5 3; levels 0 = 122; text 1 5 5 5 3; levels 0 = 12222; text 5 3
                levels 1 = 22
                """);
        run("not by an ARABNUMBER", """
                text 1 5 6; levels 0 = 112; text 1 6 5; levels 1 = 121; text 1 6 5 6; levels 0 = 1212
                text 2 3 5; levels 1 = 121; text 2 5 3; levels 0 = 112
                """);
        run("a NUMBER on one side is enough", """
                text 1 6 5 3; levels 0 = 1222; text 1 3 5 5 6; levels 0 = 12222
                """);
        run("side by side with it", """
                text 1 3 9 5; levels 1 = 1211; text 1 5 11 3; levels 0 = 1112; text 1 3 4 5
                levels 1 = 1211
                """);
        run("at the beginning and at the end of a text", """
                text 5; levels 0 = 0; levels 1 = 1; text 5 5; levels 1 = 11; text 5 5 3; levels 1 = 222
                text 3 5 5; levels 1 = 222
                """);
        run("as many as a full text has", """
                fill 5 39; type 3; level 0 1 = 2; level 38 1 = 2; wipe; type 3; fill 5 39; level 39 1 = 2
                wipe; fill 5 40; level 0 1 = 1; level 39 1 = 1
                """);
    }

    private static void numbersBehindLeft() {
        run("NUMBER becomes LEFT if the nearest in front is LEFT", """
                text 0 3; levels 0 = 00; text 0 3 9 0; levels 1 = 2222; text 1 3 9 0; levels 1 = 1212
                """);
        run("the nearest of LEFT and RIGHT", """
                text 0 1 3; levels 0 = 012; text 1 0 3; levels 0 = 100; text 0 2 3; levels 0 = 012
                """);
        run("over all other classes", """
                text 0 11 9 6 3; levels 0 = 00020; text 1 11 9 6 3; levels 0 = 11122
                """);
        run("at the beginning: by the base", """
                text 3; levels 0 = 0; levels 1 = 2; text 3 3 11 3; levels 0 = 0000
                """);
        run("ARABNUMBER does not", """
                text 0 6; levels 0 = 02; text 6; levels 0 = 2; text 0 6 9 0; levels 1 = 2212
                """);
        run("the first one of a full text is LEFT", """
                type 0; fill 3 39; level 39 0 = 0; wipe; type 1; fill 3 39; level 39 0 = 2
                """);
        run("signs and UNITs that became NUMBER, too", """
                text 0 3 4 3 5; levels 0 = 00000; text 0 3 4 3 1; levels 1 = 22221; text 0 3 7 3 1
                levels 1 = 22221
                """);
        run("UNITs become NUMBER before NUMBER becomes LEFT", """
                text 0 3 5; levels 1 = 222; text 0 5 3; levels 1 = 222; text 0 3 5 5 1; levels 1 = 22221
                text 1 0 5 3 1; levels 1 = 12221
                """);
    }

    private static void neutrals() {
        for (String n : "9 11 4 5 7".split(" ")) {
            run("LEFT if LEFT is in front of and behind them", "text 0 N 0; levels 0 = 000; levels 1 = 222"
                    .replace("N", n));
            run("RIGHT if RIGHT is", "text 1 N 1; levels 0 = 111; levels 1 = 111".replace("N", n));
            run("the base's class otherwise", """
                    text 0 N 1; levels 0 = 001; levels 1 = 211; text 1 N 0; levels 0 = 100; levels 1 = 112
                    """.replace("N", n));
        }
        run("RIGHT if in front of and behind them are of RIGHT, NUMBER, ARABNUMBER", """
                text 1 6 11 6; levels 0 = 1212; text 1 3 11 3; levels 0 = 1212; text 1 3 11 6
                levels 0 = 1212
                text 1 6 11 3; levels 0 = 1212; text 1 3 11 1; levels 0 = 1211; text 1 11 3
                levels 0 = 112
                text 1 11 6; levels 0 = 112; text 1 6 11 1; levels 0 = 1211
                """);
        run("LEFT and an ARABNUMBER: the base's class", """
                text 0 11 6; levels 0 = 002; levels 1 = 212; text 6 11 0; levels 0 = 200
                levels 1 = 212
                """);
        run("side by side, as many as there are", """
                text 1 9 11 9 11 1; levels 0 = 111111; text 1 11 10 11 1; levels 0 = 11011
                text 0 9 11 1; levels 1 = 2111; text 1 9 4 5 7 11 1; levels 0 = 1111111
                """);
        run("38 of them", "type 1; fill 11 38; type 1; level 1 0 = 1; level 38 0 = 1; level 39 0 = 1");
        run("each row by itself", """
                text 1 11 1 11 0 11 0 11 1; levels 0 = 111000001; levels 1 = 111122211
                """);
        run("the whole text", "text 11 9 11; levels 0 = 000; levels 1 = 111; levels 2 = 000");
        run("a NUMBER that became LEFT counts as LEFT", """
                text 0 3 11 0; levels 1 = 2222; text 0 11 3; levels 1 = 222
                """);
    }

    private static void levels() {
        run("with base 0: 0 for LEFT, 1 for RIGHT, 2 for the others", """
                text 0 1 2 3 1 6; levels 0 = 011212
                """);
        run("with base 1: 2 for LEFT, NUMBER and ARABNUMBER, 1 for RIGHT", """
                text 0 1 3 6 2 6; levels 1 = 212212
                """);
        run("as the table is now", """
                text 1; levels 2 = 1; set 1 3 0; levels 2 = 0; set 1 3 6; levels 2 = 2; set 1 3 9
                levels 1 = 1
                """);
    }

    private static void tabsAndWhites() {
        run("TABs have the base as level", """
                text 1 10 1; levels 0 = 101; text 0 10 0; levels 1 = 212; text 10; levels 0 = 0
                levels 1 = 1
                text 1 10 10 1; levels 0 = 1001
                """);
        run("and WHITEs side by side in front of a TAB", """
                text 1 9 10 1; levels 0 = 1001; text 1 9 9 9 10 1; levels 0 = 100001
                text 0 9 10 0; levels 1 = 2112
                text 9 10 1; levels 0 = 001; text 1 9 10 9 10 1; levels 0 = 100001
                """);
        run("or the end of the text", """
                text 1 9; levels 0 = 10; levels 1 = 11; text 1 9 9; levels 0 = 100; text 0 9 9
                levels 1 = 211
                text 9; levels 0 = 0; levels 1 = 1; text 1 10 9; levels 0 = 100
                """);
        run("not WHITEs behind a TAB", """
                text 1 10 9 1; levels 0 = 1011; text 0 10 9 0; levels 1 = 2122
                """);
        run("not WHITEs in front of anything else", """
                text 1 9 1; levels 0 = 111; text 0 9 0; levels 1 = 222; text 1 9 11 10 1; levels 0 = 11101
                text 0 9 11 10 0; levels 1 = 22212; text 1 11 9 10 1; levels 0 = 11001
                """);
        run("by their classes in the table", """
                text 1 9 8 10 1; levels 0 = 11101; text 1 10 8 1; levels 0 = 1011; text 1 9 8 1
                levels 0 = 1111
                """);
        run("a full text", """
                fill 9 39; type 10; level 0 1 = 1; level 39 1 = 1; wipe; type 1; fill 9 38; type 10
                level 1 0 = 0; level 38 0 = 0; level 39 0 = 0; level 0 0 = 1
                """);
    }

    private static void order() {
        run("the characters as they are", """
                text 0 0 0; orders 0 = 0 1 2; orders 2 = 0 1 2; text 0; orders 0 = 0
                """);
        run("one character alone", """
                text 1; orders 0 = 0; orders 1 = 0; text 3; orders 1 = 0; text 0; orders 1 = 0
                """);
        run("turned round from the end to the beginning", """
                text 1 1 1; orders 0 = 2 1 0; orders 1 = 2 1 0; orders 2 = 2 1 0
                """);
        run("a row of an even and of an odd number", """
                text 0 1 1 0 1 1 1 0; orders 0 = 0 2 1 3 6 5 4 7
                """);
        run("a full text", """
                fill 1 40; order 0 0 = 39; order 39 0 = 0; order 19 0 = 20; order 20 0 = 19; wipe
                fill 0 40; order 0 1 = 0; order 39 1 = 39; order 0 2 = 0
                """);
        run("with the base that the text says", """
                text 3 3 1; orders 2 = 2 0 1; orders 0 = 0 1 2; text 3 3 0; orders -1 = 0 1 2
                """);
    }

    private static void orderRows() {
        run("from the highest level down to 1: both turns", """
                text 1 3 3 1 0 1; levels 0 = 122101; orders 0 = 3 1 2 0 4 5
                text 0 0 1 0 0; levels 1 = 22122; orders 1 = 3 4 2 0 1
                """);
        run("level 2 alone is turned twice", """
                text 0 6 6 0; levels 0 = 0220; orders 0 = 0 1 2 3; text 0 0; orders 1 = 0 1
                """);
        run("with that level or a higher one: a row of 1 goes on over 2", """
                text 1 3 3 1; orders 0 = 3 1 2 0; text 3 3 1 6 6; orders 1 = 3 4 2 0 1
                """);
        run("each longest row: at the beginning and at the end of a text", """
                text 1 1 0 0 1 1; orders 0 = 1 0 2 3 5 4; text 6 6 1 0 1 6 6; orders 0 = 2 0 1 3 5 6 4
                """);
        run("a TAB parts the rows", """
                text 1 1 10 1 1; orders 0 = 1 0 2 4 3; orders 1 = 4 3 2 1 0; text 1 1 9
                orders 0 = 1 0 2
                """);
        run("level 0 is not turned", "text 0 0 1; orders 0 = 0 1 2; text 1 0 0; orders 0 = 0 1 2");
    }
}
