/** The edges of the terms from CHARACTERS to JOINED FORM, a run of calls for each sentence. */
public final class FormEdgesTest {
    private static final Check CHECK = new Check();

    // Ranks: 1 has 10, 2 and 3 have 20, 4 has 254, 5 has 1; all others have 0.
    private static final String RANKS =
            "set 1 0 10; set 2 0 20; set 3 0 20; set 4 0 254; set 5 0 1\n";

    public static void main(String[] args) {
        characters();
        leadsVowelsTails();
        syllables();
        partedForm();
        partedOrder();
        joinedForm();
        joinedOverRanks();
        whatJoins();
        syllablesJoin();
        CHECK.end();
    }

    private static void run(String title, String calls) {
        Script.run(CHECK, title, calls);
    }

    private static void characters() {
        run("characters are 0 .. 74", """
                type 0 = 1; type 74 = 2; type -1 ! argument; type 75 ! argument; is 0 74
                """);
        run("39 is the last one of the table", """
                set 39 0 5; set 39 1 4; set 39 2 4; set 39 3 1; set 39 4 7; text 0 39; cuts = 101
                lines = 002; levels 0 = 01; weights = 7 0 0; part 39 1 2 false; bring false = 3; is 0 1 2
                """);
        run("40 is the first one that the table does not hold", """
                set 40 0 5 ! argument; set 40 4 7 ! argument; part 40 1 2 false ! argument
                text 40; weights = 1040 0 1 0 1; bring false = 1; is 40
                """);
    }

    private static void leadsVowelsTails() {
        for (int c = 40; c < 48; c++) {
            run("they have the weights 1000 + their number, 1, 1",
                    "text C; weights = W 0 1 0 1; bring false = 1; is C; bring true = 1; is C"
                            .replace("C", "" + c).replace("W", "" + (1000 + c)));
        }
        for (int c = 40; c < 75; c++) {
            run("all these have rank 0, line class 10, side class 0", """
                    set 1 0 9; set 2 0 5; text 1 C; bring true; at 0 = 1; text 1 C 2; bring true
                    at 0 = 1; at 2 = 2; set 3 3 1; text C 3; levels 2 = 01; levels 1 = 21
                    text 3 C; levels 0 = 10; levels 2 = 12
                    text C C; lines = 012; set 4 2 9; text C 4; lines = 012; text 4 C; lines = 012
                    """.replace("C", "" + c));
            run("and are OTHER for clusters", "set 1 1 9; set 2 1 5; text 1 2 C; cuts = 1011"
                    .replace("C", "" + c));
        }
        run("42 is the last lead, 43 the first vowel", """
                text 42 43; cuts = 101; text 43 42; cuts = 111; text 42 42; cuts = 101; text 42 46
                cuts = 111
                text 43 43; cuts = 101; text 43 46; cuts = 101; text 42 43; bring true = 1; is 66
                """);
        run("45 is the last vowel, 46 the first tail, 47 the last one", """
                text 45 46; cuts = 101; text 46 45; cuts = 111; text 46 47; cuts = 101; text 47 46
                cuts = 101
                text 45 45; cuts = 101; text 40 45; bring true = 1; is 54; text 40 46
                bring true = 2; is 40 46
                """);
        run("39 is no lead, 40 is", """
                text 39 43; cuts = 111; bring true = 2; is 39 43; text 40 43; cuts = 101
                bring true = 1; is 48
                text 39 40; cuts = 111; text 40 39; cuts = 111; text 39 46; cuts = 111; text 39 39
                cuts = 111
                """);
        run("47 is a tail, 48 a syllable", """
                text 48 47; cuts = 101; bring true = 1; is 50; text 47 48; cuts = 111
                bring true = 2; is 47 48
                text 40 48; cuts = 101; text 40 47; cuts = 111; text 48 48; cuts = 111
                """);
    }

    private static void syllables() {
        String[] parts = {
            "40 43", "40 43 46", "40 43 47", "40 44", "40 44 46", "40 44 47", "40 45", "40 45 46",
            "40 45 47", "41 43", "41 43 46", "41 43 47", "41 44", "41 44 46", "41 44 47", "41 45",
            "41 45 46", "41 45 47", "42 43", "42 43 46", "42 43 47", "42 44", "42 44 46", "42 44 47",
            "42 45", "42 45 46", "42 45 47",
        };
        for (int i = 0; i < parts.length; i++) {
            int count = parts[i].split(" ").length;
            run("a syllable is parted into lead, vowel and, if t is not 0, tail",
                    "text C; bring false = N; is P; text P; bring true = 1; is C; bring false = N; is P"
                            .replace("C", "" + (48 + i)).replace("N", "" + count).replace("P", parts[i]));
        }
        run("the weights of a syllable are those of its parts", """
                text 48; weights = 1040 1043 0 1 1 0 1 1; text 74
                weights = 1042 1045 1047 0 1 1 1 0 1 1 1
                """);
    }

    private static void partedForm() {
        run("what it is parted into likewise", """
                part 10 1 2 false; part 11 10 3 false; part 12 0 11 false; text 12
                bring false = 4; is 0 1 2 3
                """);
        run("as long as anything can be: over one alone", """
                part 10 9 -1 false; part 11 10 -1 false; part 12 11 11 false; part 9 8 -1 false
                text 12; bring false = 2; is 8 8
                """);
        run("each character", """
                part 10 1 2 false; text 10 0 10; bring false = 5; is 1 2 0 1 2
                """);
        run("one that is parted into none", "text 10 39 0; bring false = 3; is 10 39 0");
        run("an excluded one is parted, too", """
                part 10 1 2 true; part 11 10 3 true; text 11; bring false = 3; is 1 2 3
                """);
        run("one that has a rank is parted, too, and its own rank is nothing then", RANKS + """
                part 10 0 1 false; set 10 0 254; text 10 5; bring false = 3; is 0 5 1
                text 5 10; bring false = 3; is 5 0 1; text 4 10; bring false = 3; is 4 0 1
                """);
    }

    private static void partedOrder() {
        run("a greater rank in front of a lesser one: they change places", RANKS + """
                text 2 1; bring false = 2; is 1 2; text 4 5; bring false; is 5 4
                text 1 5; bring false; is 5 1
                """);
        run("equal ranks do not", RANKS + """
                text 2 3; bring false; is 2 3; text 3 2; bring false; is 3 2; text 4 2 3 2; bring false
                is 2 3 2 4
                """);
        run("a lesser rank in front of a greater one: they do not", RANKS + """
                text 5 1 2 4; bring false; is 5 1 2 4
                """);
        run("and that is not 0", RANKS + """
                text 5 0; bring false; is 5 0; text 4 0; bring false; is 4 0; text 4 40
                bring false; is 4 40
                text 4 0 5; bring false; is 4 0 5; text 0 5 0; bring false; is 0 5 0
                """);
        run("as long as there are two", RANKS + """
                text 4 2 1 5; bring false; is 5 1 2 4; text 0 4 2 1 5 0 4 1; bring false
                is 0 5 1 2 4 0 1 4
                """);
        run("parts of one and of the next", RANKS + """
                part 10 1 4 false; part 11 2 5 false; text 10 11; bring false = 4; is 5 1 2 4
                part 10 4 0 false; text 10 5; bring false = 3; is 4 0 5
                """);
        run("ranks are those of the table as it is now", RANKS + """
                text 1 2; bring false; is 1 2; set 1 0 21; is 1 2; bring false; is 2 1
                set 2 0 0; text 1 2; bring false; is 1 2
                """);
    }

    private static void joinedForm() {
        run("the first character is joined to nothing", RANKS + """
                part 10 0 1 false; text 1; bring true = 1; is 1; text 1 0; bring true = 2; is 1 0
                text 1 0 1; bring true = 2; is 1 10
                """);
        run("no starter in front", RANKS + """
                part 10 1 2 false; text 1 2; bring true = 2; is 1 2; text 5 1 2; bring true = 3; is 5 1 2
                """);
        run("the nearest starter, and no other one", RANKS + """
                part 10 0 1 false; text 0 6 1; bring true = 3; is 0 6 1; text 6 0 1
                bring true = 2; is 6 10
                """);
        run("starters side by side", """
                part 10 0 6 false; text 0 6 0 6; bring true = 2; is 10 10; text 6 0
                bring true = 2; is 6 0
                text 0 0 6; bring true = 2; is 0 10
                """);
        run("by what is there then: s that became another one", RANKS + """
                part 10 0 1 false; part 11 10 2 false; text 0 1 2; bring true = 1; is 11
                part 12 10 6 false; text 0 1 6; bring true = 1; is 12
                """);
        run("by what is there then: s is not what it was", RANKS + """
                part 10 0 1 false; part 11 0 2 false; text 0 1 2; bring true = 2; is 10 2
                """);
        run("by what is there then: c was taken out from between", RANKS + """
                part 10 0 2 false; part 11 10 3 false; text 0 2 3; bring true = 1; is 11
                part 12 10 6 false; text 0 2 6; bring true = 1; is 12
                """);
        run("the parted form is what is gone through", RANKS + """
                part 10 0 1 false; part 11 0 2 false; text 11 1; bring true = 2; is 10 2
                text 10 2; bring true = 2; is 10 2
                """);
        run("to the end of the text", """
                part 10 0 6 false; fill 0 38; type 0; type 6; bring true = 39; at 38 = 10; at 37 = 0
                """);
    }

    private static void joinedOverRanks() {
        run("over a lesser rank", RANKS + """
                part 10 0 2 false; text 0 1 2; bring true = 2; is 10 1; text 0 5 1 2; bring true = 3
                is 10 5 1
                """);
        run("a rank not less than that of c: an equal one", RANKS + """
                part 10 0 2 false; text 0 3 2; bring true = 3; is 0 3 2; text 0 2 2
                bring true = 2; is 10 2
                """);
        run("one of several between is enough", RANKS + """
                part 10 0 2 false; text 0 1 3 2; bring true = 4; is 0 1 3 2
                """);
        run("a starter is not joined over a rank", RANKS + """
                part 10 0 6 false; text 0 5 6; bring true = 3; is 0 5 6; text 0 6 5
                bring true = 2; is 10 5
                """);
        run("side by side: nothing is between", RANKS + """
                part 10 0 5 false; text 0 5; bring true = 1; is 10; part 11 0 4 false; text 0 4
                bring true = 1; is 11
                """);
    }

    private static void whatJoins() {
        run("the least character", """
                part 39 0 6 false; text 0 6; bring true = 1; is 39; part 20 0 6 false; text 39
                bring true = 1; is 20; part 7 0 6 false; text 20; bring true = 1; is 7
                part 7 -1 -1 false; text 0 6; bring true = 1; is 20
                """);
        run("that has rank 0", """
                part 20 0 6 false; part 21 0 6 false; set 20 0 1; text 20; bring true = 1; is 21
                set 21 0 254; bring true = 2; is 0 6; set 20 0 0; bring true = 1; is 20
                """);
        run("is parted into a and b, in this order", """
                part 20 0 6 false; text 6 0; bring true = 2; is 6 0; part 21 6 0 false
                bring true = 1; is 21
                """);
        run("is parted into a and b, not into a alone", """
                part 20 6 -1 false; part 21 0 -1 false; text 0 6; bring true = 2; is 0 6
                text 20; bring true = 1; is 6
                """);
        run("is parted into a and b themselves, not in the end", """
                part 7 6 -1 false; part 20 0 7 false; text 20; bring true = 2; is 0 6; text 0 7
                bring true = 2; is 0 6; part 21 0 6 false; bring true = 1; is 21
                """);
        run("and is not excluded", """
                part 20 0 6 true; part 21 0 6 false; text 20; bring true = 1; is 21
                part 21 0 6 true; bring true = 2; is 0 6; part 20 0 6 false; bring true = 1; is 20
                """);
        run("a character that is parted no more", """
                part 20 0 6 false; part 20 -1 -1 false; text 0 6; bring true = 2; is 0 6
                """);
        run("0 and 0 join, too", "part 1 0 0 false; text 0 0 0; bring true = 2; is 1 0");
    }

    private static void syllablesJoin() {
        run("a lead and a vowel", """
                text 40 43; bring true = 1; is 48; text 42 45; bring true = 1; is 72
                text 43 40; bring true = 2; is 43 40; text 40 40; bring true = 2; is 40 40
                text 43 43; bring true = 2; is 43 43
                """);
        run("a syllable without a tail and a tail", """
                text 48 46; bring true = 1; is 49; text 48 47; bring true = 1; is 50
                text 72 46; bring true = 1; is 73; text 72 47; bring true = 1; is 74
                """);
        run("not one with a tail and a tail", """
                text 49 46; bring true = 2; is 49 46; text 50 46; bring true = 2; is 50 46
                text 74 47; bring true = 2; is 74 47; text 40 43 46 46; bring true = 2; is 49 46
                """);
        run("nothing else of them", """
                text 40 46; bring true = 2; is 40 46; text 43 46; bring true = 2; is 43 46
                text 46 47; bring true = 2; is 46 47; text 48 43; bring true = 2; is 48 43
                text 40 48; bring true = 2; is 40 48; text 48 48; bring true = 2; is 48 48
                text 46 40 43; bring true = 2; is 46 48
                """);
        run("not over a rank, and not with a starter between", RANKS + """
                text 40 5 43; bring true = 3; is 40 5 43; text 48 5 46; bring true = 3; is 48 5 46
                text 40 0 43; bring true = 3; is 40 0 43; text 40 43 5 46; bring true = 3; is 48 5 46
                """);
        run("with a rank behind them", RANKS + "text 40 43 46 5; bring true = 2; is 49 5");
    }
}
