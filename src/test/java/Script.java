import java.util.Arrays;

/**
 * A run of calls on a new object, told in words, with the answers that are due.
 *
 * <p>Calls stand on lines of their own or between semicolons: "type 3 = 1" is a call and its answer,
 * "type 75 ! argument" one that is refused, "type 3" one whose answer is not looked at. "min" and
 * "max" are the least and the greatest int. Besides the calls of the face there are:
 *
 * <pre>
 *   text 1 2 3          wipe, and type each
 *   fill 1 40           type 1, forty times
 *   is 1 2 3            the whole text
 *   cuts = 101          cluster at every place, the first one and the last one too
 *   lines = 002         line at every place likewise
 *   levels 0 = 010      level of every character, with base 0
 *   orders 0 = 2 1 0    order of every character likewise
 *   weights = 5 0 0     the whole key
 * </pre>
 *
 * Each of the last six also asks for one more than there is, which must be refused.
 */
final class Script {
    private static final int PROMISED_CALLS = 512;

    private final Check check;
    private final String title;
    private final TextPipeline x = new TextPipeline();
    private int calls;

    private Script(Check check, String title) {
        this.check = check;
        this.title = title;
    }

    static void run(Check check, String title, String calls) {
        Script script = new Script(check, title);
        for (String call : calls.split("[;\n]")) {
            if (!call.isBlank()) {
                script.line(call.strip());
            }
        }
        if (script.calls > PROMISED_CALLS) {
            check.note(title + ": has " + script.calls + " calls, more than are promised");
        }
    }

    private void line(String line) {
        String[] halves = line.split("\\s*[=!]\\s*", 2);
        String[] words = halves[0].split("\\s+");
        int[] numbers = numbersIn(Arrays.copyOfRange(words, 1, words.length));
        boolean flag = words[words.length - 1].equals("true");
        String got = answer(words[0], numbers, flag, halves.length > 1 ? halves[1] : "");
        if (halves.length > 1 && !got.equals(halves[1])) {
            check.note(title + ": " + line + ": answered " + got);
        } else if (halves.length == 1 && got.matches("argument|state|index|other .*")) {
            check.note(title + ": " + line + ": refused with " + got);
        }
    }

    private static int[] numbersIn(String[] words) {
        return Arrays.stream(words).filter(word -> !word.matches("true|false"))
                .mapToInt(Script::number).toArray();
    }

    private static int number(String word) {
        return word.equals("min") ? Integer.MIN_VALUE
                : word.equals("max") ? Integer.MAX_VALUE : Integer.parseInt(word);
    }

    private String answer(String name, int[] n, boolean flag, String want) {
        switch (name) {
            case "text":
                once("wipe", n, flag);
                return typeAll(n);
            case "fill":
                int[] row = new int[n[1]];
                Arrays.fill(row, n[0]);
                return typeAll(row);
            case "is":
                return whole("at", " ", n.length, n, true).equals(spaced(n)) ? "" : "other text";
            case "cuts":
                return whole("cluster", "", want.length(), n, false);
            case "lines":
                return whole("line", "", want.length(), n, false);
            case "levels":
                return whole("level", "", want.length(), n, false);
            case "orders":
                return whole("order", " ", want.split(" ").length, n, false);
            case "weights":
                return whole("keyAt", " ", want.split(" ").length, n, false);
            default:
                return once(name, n, flag);
        }
    }

    private String typeAll(int[] characters) {
        for (int c : characters) {
            String got = once("type", new int[] {c}, false);
            if (!got.matches("\\d+")) {
                return got;
            }
        }
        return "";
    }

    private static String spaced(int[] numbers) {
        return String.join(" ", Arrays.stream(numbers).mapToObj(String::valueOf).toList());
    }

    /** The answers for 0 .. length - 1, if the next one is refused; otherwise what it answers. */
    private String whole(String name, String gap, int length, int[] more, boolean isAlone) {
        StringBuilder all = new StringBuilder();
        for (int i = 0; i < length; i++) {
            String got = once(name, withIndex(i, more, isAlone), false);
            all.append(i == 0 ? "" : gap).append(got.equals("true") ? "1" : got.equals("false") ? "0" : got);
        }
        String behind = once(name, withIndex(length, more, isAlone), false);
        return behind.equals("index") ? all.toString() : all + " and then " + behind;
    }

    private static int[] withIndex(int i, int[] more, boolean isAlone) {
        return isAlone || more.length == 0 ? new int[] {i} : new int[] {i, more[0]};
    }

    private String once(String name, int[] n, boolean flag) {
        calls++;
        try {
            return called(name, n, flag);
        } catch (IllegalArgumentException e) {
            return e.getClass() == IllegalArgumentException.class ? "argument" : "other " + e;
        } catch (IllegalStateException e) {
            return e.getClass() == IllegalStateException.class ? "state" : "other " + e;
        } catch (IndexOutOfBoundsException e) {
            return e.getClass() == IndexOutOfBoundsException.class ? "index" : "other " + e;
        } catch (RuntimeException e) {
            return "other " + e;
        }
    }

    private String called(String name, int[] n, boolean flag) {
        switch (name) {
            case "set":
                x.set(n[0], n[1], n[2]);
                return "";
            case "part":
                x.part(n[0], n[1], n[2], flag);
                return "";
            case "wipe":
                x.wipe();
                return "";
            case "keep":
                x.keep(n[0]);
                return "";
            case "cluster":
                return String.valueOf(x.cluster(n[0]));
            case "same":
                return String.valueOf(x.same(n[0]));
            default:
                return String.valueOf(counted(name, n, flag));
        }
    }

    private int counted(String name, int[] n, boolean flag) {
        switch (name) {
            case "type":
                return x.type(n[0]);
            case "bring":
                return x.bring(flag);
            case "at":
                return x.at(n[0]);
            case "clusters":
                return x.clusters();
            case "line":
                return x.line(n[0]);
            case "level":
                return x.level(n[0], n[1]);
            case "order":
                return x.order(n[0], n[1]);
            case "key":
                return x.key();
            case "keyAt":
                return x.keyAt(n[0]);
            case "compare":
                return x.compare(n[0]);
            default:
                throw new UnsupportedOperationException(name);
        }
    }
}
