/** The edges that promises 1 to 7 name, a run of calls for each sentence. */
public final class TextEdgesTest {
    private static final Check CHECK = new Check();
    private static final int[] GREATEST = {254, 9, 12, 11, 999, 999, 999};

    public static void main(String[] args) {
        newObject();
        lastCalls();
        setRanges();
        setRefused();
        partKinds();
        partArguments();
        partIntoMoreThanFour();
        partRefused();
        type();
        wipe();
        bring();
        bringRefused();
        at();
        CHECK.end();
    }

    private static void run(String title, String calls) {
        Script.run(CHECK, title, calls);
    }

    private static void newObject() {
        for (int c = 0; c < 40; c++) {
            int other = c == 0 ? 1 : 0;
            String texts = ("set O 0 254; text O C; bring false = 2; is O C; bring true = 2; is O C"
                    + "; text C C; cuts = 111; lines = 002; weights = 0 0"
                    + "; set O 2 8; text O C; lines = 012; set O 2 6; lines = 002"
                    + "; set O 3 1; levels 0 = 10; text C O; levels 2 = 01");
            run("at first everything is 0, and they are not parted",
                    texts.replace("O", "" + other).replace("C", "" + c));
        }
        run("an empty text", """
                is; clusters = 0; cuts = 1; lines = 0; key = 2; weights = 0 0
                level 0 0 ! index; level 0 1 ! index; level 0 2 ! index; order 0 0 ! index
                bring false = 0; bring true = 0; is
                """);
        for (int k = 0; k < 4; k++) {
            run("nothing is kept", "compare K = 0; same K = true; type 5; compare K = 0; same K = false"
                    .replace("K", "" + k));
        }
        TextPipeline one = new TextPipeline();
        one.set(3, 4, 9);
        one.part(4, 3, 3, false);
        one.type(4);
        one.keep(0);
        run("a new object knows nothing of another one", """
                is; same 0 = true; type 3; weights = 0 0; text 4; bring false = 1; is 4
                """);
        CHECK.due("nor that one of the new one", Check.keyOf(one), "9 9 0 0");
    }

    private static void lastCalls() {
        String parting = "part 9 1 2 false; set 2 0 7; set 1 4 5; text 9; keep 3\n";
        run("the calls up to the 512th one are answered like the first ones", parting
                + "bring false = 2; bring true = 1; same 3 = true; type 75 ! argument\n".repeat(125)
                + "at 0 = 9; weights = 5 0 0; compare 3 = 0");
        String growing = "part 1 0 0 false; part 2 1 1 false\n";
        run("a text that becomes long and short again, over and over", growing
                + "text 2 2; bring false = 8; bring true = 4; is 1 1 1 1; bring true = 4\n".repeat(46)
                + "wipe; is");
    }

    private static void setRanges() {
        for (int what = 0; what < 7; what++) {
            String ranges = """
                    set 0 W 0; set 0 W G; set 39 W 0; set 39 W G
                    set 0 W -1 ! argument; set 0 W H ! argument
                    set 39 W -1 ! argument; set 39 W H ! argument
                    set 0 W min ! argument; set 0 W max ! argument
                    set -1 W 0 ! argument; set 40 W 0 ! argument; set 74 W 0 ! argument
                    set 75 W 0 ! argument; set min W 0 ! argument; set max W 0 ! argument
                    """;
            run("set: c is not 0 .. 39, or v is not in its range", ranges.replace("W", "" + what)
                    .replace("G", "" + GREATEST[what]).replace("H", "" + (GREATEST[what] + 1)));
        }
        run("set: there is no such property", """
                set 0 -1 0 ! argument; set 0 7 0 ! argument; set 39 7 0 ! argument
                set 0 min 0 ! argument; set 0 max 0 ! argument; set 40 7 1000 ! argument
                """);
        run("set: the greatest rank, and the one below it", """
                set 1 0 254; set 2 0 253; text 1 2; bring false = 2; is 2 1
                set 2 0 254; text 1 2; bring false; is 1 2; set 2 0 1; bring false; is 2 1
                """);
        run("set: the greatest cluster class is PICTURE", """
                set 1 1 9; set 2 1 5; text 1 2 1; cuts = 1001; set 1 1 0; cuts = 1011
                """);
        run("set: the greatest line class is COMMA", """
                set 1 2 12; set 2 2 10; text 2 1; lines = 002; set 1 2 0; lines = 012
                """);
        run("set: the greatest side class is OTHER", """
                set 1 3 11; set 2 3 1; text 2 1 2; levels 0 = 111; set 1 3 0; levels 0 = 101
                """);
        run("set: the greatest weights", """
                set 39 4 999; set 39 5 998; set 39 6 997; text 39; weights = 999 0 998 0 997
                set 39 5 999; weights = 999 0 999 0 997; set 39 6 999; weights = 999 0 999 0 999
                set 39 4 0; weights = 0 999 0 999; set 39 4 1; weights = 1 0 999 0 999
                """);
        run("set: of character c alone", """
                set 6 4 60; text 5; weights = 0 0; text 7; weights = 0 0; text 6; weights = 60 0 0
                """);
    }

    private static void setRefused() {
        run("a refused set changes no weight", """
                set 1 4 5; set 1 5 6; set 1 6 7; set 1 4 1000 ! argument; set 1 5 -1 ! argument
                set 1 6 1000 ! argument; set 1 7 3 ! argument; text 1; weights = 5 0 6 0 7
                """);
        run("a refused set changes no rank", """
                set 1 0 9; set 2 0 5; set 1 0 255 ! argument; set 2 0 -1 ! argument
                text 1 2; bring false; is 2 1
                """);
        run("a refused set changes no class", """
                set 1 1 4; set 1 2 4; set 1 3 1; text 0 1 0; cuts = 1011; lines = 0002; levels 0 = 010
                set 1 1 10 ! argument; set 1 2 13 ! argument; set 1 3 12 ! argument
                set 1 1 -1 ! argument; set 1 2 -1 ! argument; set 1 3 -1 ! argument
                cuts = 1011; lines = 0002; levels 0 = 010; is 0 1 0
                """);
        run("a refused set leaves what is kept", """
                set 1 4 5; text 1; keep 0; set 40 4 1 ! argument; compare 0 = 0; same 0 = true; is 1
                """);
    }

    private static void partKinds() {
        run("parted into a and b", "part 9 3 4 false; text 9; bring false = 2; is 3 4");
        run("parted into a and a", """
                part 9 3 3 false; text 9; bring false = 2; is 3 3; bring true; is 9
                """);
        run("into a alone if b is -1", """
                part 9 3 -1 false; text 9; bring false = 1; is 3; text 9; bring true = 1; is 3
                """);
        run("not at all if a is -1, too", """
                part 9 3 4 false; part 9 -1 -1 false; text 9; bring false = 1; is 9
                text 3 4; bring true = 2; is 3 4
                """);
        run("into a alone where it was into two", """
                part 9 3 4 false; part 9 3 -1 false; text 9; bring false = 1; is 3
                text 3 4; bring true = 2; is 3 4
                """);
        run("into two where it was into one", """
                part 9 3 -1 false; part 9 4 3 false; text 9; bring false = 2; is 4 3; bring true; is 9
                """);
        run("from now on: a text that is there, and not one that was brought", """
                text 9 5; part 9 3 4 false; is 9 5; bring false = 3; is 3 4 5
                part 3 1 2 false; is 3 4 5; bring false = 4; is 1 2 4 5
                """);
        run("excluded or not", """
                part 9 3 4 true; text 9; bring true = 2; is 3 4; part 9 3 4 false; bring true = 1; is 9
                part 9 3 4 true; is 9; bring true = 2; is 3 4
                """);
        run("one that is parted into none may be excluded, and is parted later", """
                part 9 -1 -1 true; text 9; bring true = 1; is 9
                part 9 3 4 false; bring true = 1; is 9; bring false = 2; is 3 4
                """);
        run("the least and the greatest character", """
                part 0 -1 -1 false; part 0 -1 -1 true; part 1 0 -1 false; part 1 0 0 false
                part 39 38 38 false; part 39 38 -1 false; part 39 0 38 false; part 39 38 0 false
                text 0 1 39; bring false = 5; is 0 0 0 38 0; bring true = 3; is 1 0 39
                """);
    }

    private static void partArguments() {
        run("part: c is not 0 .. 39", """
                part -1 -1 -1 false ! argument; part 40 -1 -1 false ! argument
                part 40 0 1 false ! argument; part 48 -1 -1 false ! argument
                part 74 -1 -1 false ! argument; part 75 0 0 true ! argument
                part min -1 -1 false ! argument; part max 0 0 false ! argument
                """);
        run("part: a is not -1 .. c - 1", """
                part 5 5 -1 false ! argument; part 5 6 -1 false ! argument; part 5 -2 -1 false ! argument
                part 5 5 0 false ! argument; part 5 -2 0 false ! argument; part 0 0 -1 false ! argument
                part 39 39 0 false ! argument; part 39 40 0 false ! argument
                part 5 min 0 false ! argument; part 5 max 0 false ! argument; part 5 4 -1 false
                """);
        run("part: b is not -1 .. c - 1", """
                part 5 0 5 false ! argument; part 5 0 6 false ! argument; part 5 0 -2 false ! argument
                part 39 0 39 false ! argument; part 39 0 40 false ! argument
                part 5 0 min false ! argument; part 5 0 max false ! argument; part 5 0 4 false
                """);
        run("part: b is not -1 though a is", """
                part 5 -1 0 false ! argument; part 5 -1 4 true ! argument; part 1 -1 0 false ! argument
                part 5 -1 5 false ! argument; part 5 -1 -2 false ! argument; part 5 -2 -2 false ! argument
                part 5 -1 -1 false
                """);
    }

    private static void partIntoMoreThanFour() {
        String pieces = "part 10 1 2 false; part 11 10 3 false; part 12 11 4 false; part 13 10 10 true\n";
        run("four are not too many", pieces + """
                part 20 12 -1 false; part 21 10 10 false; part 22 11 3 false; part 23 3 11 false
                text 20 21 22 23; bring false = 16; is 1 2 3 4 1 2 1 2 1 2 3 3 3 1 2 3
                """);
        run("five are", pieces + """
                part 20 12 1 false ! state; part 20 1 12 false ! state; part 20 10 11 false ! state
                part 20 11 10 true ! state; part 20 13 0 false ! state
                """);
        run("so are more", pieces + """
                part 20 11 11 false ! state; part 20 12 10 false ! state; part 20 10 12 false ! state
                part 20 12 11 true ! state; part 20 12 12 false ! state; part 20 13 13 false ! state
                """);
        run("some character, not only c: one part of four becomes two", pieces + """
                part 4 0 0 false ! state; part 1 0 0 false ! state; part 3 1 2 false ! state
                part 4 0 -1 false; text 12; bring false = 4; is 1 2 3 0
                """);
        run("some character, though the least ones stay small", """
                part 5 1 2 false; part 30 5 5 false; part 39 30 -1 false
                part 2 0 1 false ! state; part 1 0 0 false ! state
                part 39 -1 -1 false; part 1 0 0 false ! state
                part 30 5 -1 false; part 1 0 0 false; text 30 39; bring false = 4; is 0 0 2 39
                """);
        run("the last character counts, too", """
                part 38 1 2 false; part 39 38 38 false; part 38 1 -1 false; part 38 1 2 false
                part 37 1 2 false; part 38 37 0 false ! state; text 39; bring false = 4; is 1 2 1 2
                """);
        run("what c was parted into before does not count", pieces + """
                part 12 5 6 false; part 12 11 5 false; part 13 12 -1 false; text 13 12
                bring false = 8; is 1 2 3 5 1 2 3 5
                """);
        run("a chain over all characters", chain() + """
                text 39; bring false = 1; is 0; part 1 0 0 false; part 2 1 1 false
                part 3 2 0 false ! state; part 39 38 0 false ! state; part 39 0 0 false
                part 39 38 -1 false; text 39 3; bring false = 8; is 0 0 0 0 0 0 0 0
                """);
    }

    private static String chain() {
        StringBuilder all = new StringBuilder();
        for (int c = 1; c < 40; c++) {
            all.append("part ").append(c).append(' ').append(c - 1).append(" -1 false\n");
        }
        return all.toString();
    }

    private static void partRefused() {
        String pieces = "part 10 1 2 false; part 11 10 10 false; ";
        run("a part refused with IllegalStateException changes nothing", pieces + """
                part 12 3 4 false; text 12; part 12 11 3 true ! state; is 12; bring false = 2; is 3 4
                bring true = 1; is 12
                """);
        run("nor does it take an exclusion away", pieces + """
                part 12 3 4 true; part 12 11 3 false ! state; text 3 4; bring true = 2; is 3 4
                """);
        run("nor does it change those that c is a part of", pieces + """
                part 1 0 0 false ! state; text 1 10 11; bring false = 7; is 1 1 2 1 2 1 2
                """);
        run("a part refused with IllegalArgumentException changes nothing", """
                part 12 3 4 false; part 12 12 3 true ! argument; part 12 3 -2 true ! argument
                part 12 -1 3 true ! argument; text 12; bring false = 2; is 3 4; bring true = 1; is 12
                """);
        run("a refused part can be made when there is room for it", pieces + """
                part 12 11 3 false ! state; part 11 -1 -1 false; part 12 11 3 false
                text 12; bring false = 2; is 11 3
                """);
    }

    private static void type() {
        run("type: how many it has", """
                type 0 = 1; type 74 = 2; type 0 = 3; is 0 74 0; wipe; type 5 = 1; is 5
                """);
        run("type: there is no such character", """
                type -1 ! argument; type 75 ! argument; type min ! argument; type max ! argument; is
                type 74 = 1; type 75 ! argument; is 74; type 0 = 2; type -1 ! argument; is 74 0
                """);
        run("type: it has 40", """
                fill 7 39; type 8 = 40; type 9 ! state; type 74 ! state; at 38 = 7; at 39 = 8
                at 40 ! index
                clusters = 40; wipe; type 9 = 1
                """);
        run("type: no character, and no room for it", """
                fill 7 40; type 75 ! argument; type -1 ! argument; type 0 ! state; at 39 = 7
                """);
        run("type: a text that was brought to 40 is full, one that was joined is not", """
                part 9 1 2 false; fill 9 20; bring false = 40; type 1 ! state
                bring true = 20; type 1 = 21; at 20 = 1; at 21 ! index
                """);
    }

    private static void wipe() {
        run("the text is empty", """
                text 1 2 3; wipe; is; clusters = 0; weights = 0 0; cuts = 1; lines = 0
                level 0 0 ! index; order 0 0 ! index; bring true = 0; wipe; is
                """);
        run("a full text is empty, too", "fill 74 40; wipe; is; type 1 = 1; is 1");
        run("wipe leaves the table and what is kept", """
                set 1 4 5; set 2 0 7; part 3 1 2 false; text 1 2; keep 0; wipe; same 0 = false
                compare 0 = -1; text 3; same 0 = true; weights = 5 0 0; bring true = 1; is 3
                """);
        run("what stood behind the text is forgotten", """
                set 1 3 1; set 3 3 3; set 5 3 5; set 9 3 9; set 8 1 9; set 7 1 5
                text 1 5 3; levels 0 = 122; text 1 5; levels 0 = 10; text 1 9 1; levels 0 = 111
                text 1 9; levels 0 = 10; text 8 7 8; cuts = 1001; text 7 8; cuts = 111
                """);
    }

    private static void bring() {
        run("how many characters it has", """
                part 9 1 2 false; text 9 9 5; bring false = 5; is 1 2 1 2 5; bring true = 3; is 9 9 5
                bring true = 3; is 9 9 5; bring false = 5; bring false = 5; is 1 2 1 2 5
                """);
        run("an empty text stays empty", "part 9 1 2 false; bring false = 0; is; bring true = 0; is");
        run("one character alone", "text 0; bring false = 1; is 0; bring true = 1; is 0");
        run("a full text that nothing can be done with", """
                fill 7 40; bring false = 40; bring true = 40; at 0 = 7; at 39 = 7; at 40 ! index
                """);
        run("a form of 40", """
                part 9 1 2 true; fill 9 20; bring false = 40; at 39 = 2; at 40 ! index
                bring true = 40; at 39 = 2; at 40 ! index; at 0 = 1
                """);
        run("a joined form of 40, though the parted one has more", """
                part 9 1 2 false; fill 9 40; bring true = 40; at 0 = 9; at 39 = 9; at 40 ! index
                """);
        run("a joined form of 40, though the parted one has 160", """
                part 9 1 2 false; part 10 9 3 false; part 11 10 4 false; fill 11 40; bring true = 40
                at 0 = 11; at 39 = 11
                """);
        run("40 syllables", "fill 74 40; bring true = 40; at 0 = 74; at 39 = 74; bring false ! state");
        run("a joined form becomes short", """
                part 9 1 2 false; fill 1 1; fill 2 1; fill 0 38; bring true = 39; at 0 = 9; at 38 = 0
                at 39 ! index; type 5 = 40
                """);
    }

    private static void bringRefused() {
        run("a parted form of 41", """
                part 9 1 2 false; fill 9 20; type 0; bring false ! state; at 0 = 9; at 19 = 9; at 20 = 0
                at 21 ! index; bring true = 21
                """);
        run("a joined form of 41", """
                part 9 1 2 true; fill 9 20; type 0; bring true ! state; at 0 = 9; at 19 = 9; at 20 = 0
                at 21 ! index; bring false ! state; at 0 = 9; at 20 = 0; at 21 ! index
                """);
        run("41 parts of syllables", """
                fill 74 13; type 72; bring false ! state; at 12 = 74; at 13 = 72; at 14 ! index
                """);
        run("160 of each form", """
                part 9 1 2 true; part 10 9 9 true; fill 10 40; bring false ! state; bring true ! state
                at 0 = 10; at 39 = 10; at 40 ! index; key = 2
                """);
        run("then it stays, and what is kept and the table stay, too", """
                set 1 4 5; part 9 1 2 true; text 9; keep 0; fill 9 20; keep 3; bring false ! state
                bring true ! state; same 3 = true; same 0 = false; compare 0 = 1; type 3 = 22
                text 1 2; same 0 = true; text 9; bring true = 2; is 1 2
                """);
        run("then it stays, unsorted and unjoined", """
                set 1 0 9; set 2 0 5; part 9 3 4 true; text 0 1 2; fill 9 20; bring false ! state
                at 0 = 0; at 1 = 1; at 2 = 2; at 3 = 9; bring true ! state; at 1 = 1; at 2 = 2; at 22 = 9
                wipe; text 0 1 2; bring false = 3; is 0 2 1
                """);
    }

    private static void at() {
        run("character i of the text", "text 74 0 39 40; at 0 = 74; at 1 = 0; at 2 = 39; at 3 = 40");
        run("at: there is none", """
                at 0 ! index; at -1 ! index; type 3; at 0 = 3; at 1 ! index; at -1 ! index
                at min ! index; at max ! index; is 3
                """);
        run("at: the last one of a full text", """
                fill 1 39; type 2; at 39 = 2; at 40 ! index; at 41 ! index; wipe; at 39 ! index
                at 0 ! index
                """);
    }
}
