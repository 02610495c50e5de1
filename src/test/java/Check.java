/** Counts and prints the answers that are not as due; shared by the tests of the project. */
final class Check {
    static final Class<? extends RuntimeException> ARGUMENT = IllegalArgumentException.class;
    static final Class<? extends RuntimeException> STATE = IllegalStateException.class;
    static final Class<? extends RuntimeException> INDEX = IndexOutOfBoundsException.class;

    private int wrong;

    void due(String call, long got, long want) {
        if (got != want) {
            note(call + " answered " + got + ", due is " + want);
        }
    }

    void due(String call, boolean got, boolean want) {
        due(call, got ? 1 : 0, want ? 1 : 0);
    }

    void due(String call, String got, String want) {
        if (!got.equals(want)) {
            note(call + " answered " + got + ", due is " + want);
        }
    }

    void fails(String call, Class<? extends RuntimeException> want, Runnable run) {
        try {
            run.run();
        } catch (RuntimeException e) {
            if (e.getClass() != want) {
                note(call + " threw " + e + ", due is " + want.getName());
            }
            return;
        }
        note(call + " threw nothing, due is " + want.getName());
    }

    void note(String what) {
        wrong++;
        System.out.println(what);
    }

    void end() {
        System.out.println(wrong == 0 ? "all answers are as due" : wrong + " answers are not as due");
        if (wrong != 0) {
            System.exit(1);
        }
    }

    static void retype(TextPipeline x, int... characters) {
        x.wipe();
        for (int c : characters) {
            x.type(c);
        }
    }

    /** The text, found by its calls alone: the first place without a character is its end. */
    static String textOf(TextPipeline x) {
        StringBuilder all = new StringBuilder();
        try {
            for (int i = 0; i <= 40; i++) {
                int c = x.at(i);
                all.append(i == 0 ? "" : " ").append(c);
            }
        } catch (IndexOutOfBoundsException e) {
            return all.toString();
        }
        return "more than 40 characters";
    }

    static String keyOf(TextPipeline x) {
        StringBuilder all = new StringBuilder();
        int length = x.key();
        for (int i = 0; i < length; i++) {
            all.append(i == 0 ? "" : " ").append(x.keyAt(i));
        }
        return all.toString();
    }
}
