import java.util.Random;
import java.util.function.Supplier;

/** Runs of 512 calls, from fixed seeds, on the class and on the model, call by call. */
public final class ModelTest {
    private static final Check CHECK = new Check();
    private static final int RUNS = 600;
    private static final int CALLS = 512;

    private final Random random;
    private final TextPipeline x = new TextPipeline();
    private final Model model = new Model();
    private final int run;
    private final int reach;
    private final int topic;

    private ModelTest(int run) {
        this.run = run;
        random = new Random(run);
        reach = 3 + random.nextInt(37);
        topic = random.nextInt(6);
    }

    public static void main(String[] args) {
        for (int run = 1; run <= RUNS; run++) {
            ModelTest test = new ModelTest(run);
            for (int call = 0; call < CALLS; call++) {
                test.call();
            }
        }
        CHECK.end();
    }

    private static String answer(Supplier<Object> call) {
        try {
            return String.valueOf(call.get());
        } catch (IllegalArgumentException e) {
            return "IllegalArgumentException";
        } catch (IllegalStateException e) {
            return "IllegalStateException";
        } catch (IndexOutOfBoundsException e) {
            return "IndexOutOfBoundsException";
        }
    }

    private void due(String call, Supplier<Object> got, Supplier<Object> want) {
        CHECK.due("run " + run + ": " + call, answer(got), answer(want));
    }

    private boolean chance(int percent) {
        return random.nextInt(100) < percent;
    }

    /** A number in a range, and now and then one just outside it or far away. */
    private int near(int least, int most) {
        if (chance(2)) {
            int[] odd = {least - 1, most + 1, Integer.MIN_VALUE, Integer.MAX_VALUE, -7, 1000};
            return odd[random.nextInt(odd.length)];
        }
        return least + random.nextInt(most - least + 1);
    }

    private void call() {
        int kind = random.nextInt(100);
        if (kind < 14) {
            setOrPart();
        } else if (kind < 40) {
            typeOne();
        } else if (kind < 41) {
            x.wipe();
            model.wipe();
        } else if (kind < 46) {
            boolean joined = chance(60);
            due("bring(" + joined + ")", () -> x.bring(joined), () -> model.bring(joined));
        } else if (kind < 80) {
            lookAt(near(0, 41));
        } else {
            slotOrKey();
        }
    }

    private void setOrPart() {
        if (chance(35)) {
            int c = near(1, reach);
            int most = Math.min(Math.max(c, 1), 40) - 1;
            int a = near(-1, most);
            int b = near(-1, most);
            boolean excluded = chance(20);
            String call = "part(" + c + ", " + a + ", " + b + ", " + excluded + ")";
            due(call, () -> done(() -> x.part(c, a, b, excluded)),
                    () -> done(() -> model.part(c, a, b, excluded)));
            return;
        }
        int[] most = {3, 9, 12, 11, 3, 3, 3};
        int c = near(0, reach);
        int what = chance(70) ? Math.min(topic, 4) : near(0, 6);
        int v = near(0, what >= 0 && what < 7 ? most[what] : 1);
        due("set(" + c + ", " + what + ", " + v + ")", () -> done(() -> x.set(c, what, v)),
                () -> done(() -> model.set(c, what, v)));
    }

    private static Object done(Runnable call) {
        call.run();
        return "";
    }

    private void typeOne() {
        int c = topic == 5 || chance(8) ? near(38, 74) : near(0, reach);
        due("type(" + c + ")", () -> x.type(c), () -> model.type(c));
    }

    private void lookAt(int i) {
        int base = near(-1, 2);
        switch (random.nextInt(6)) {
            case 0:
                due("at(" + i + ")", () -> x.at(i), () -> model.at(i));
                break;
            case 1:
                due("cluster(" + i + ")", () -> x.cluster(i), () -> model.cluster(i));
                break;
            case 2:
                due("clusters()", () -> x.clusters(), () -> model.clusters());
                break;
            case 3:
                due("line(" + i + ")", () -> x.line(i), () -> model.line(i));
                break;
            case 4:
                due("level(" + i + ", " + base + ")", () -> x.level(i, base), () -> model.level(i, base));
                break;
            default:
                due("order(" + i + ", " + base + ")", () -> x.order(i, base), () -> model.order(i, base));
                break;
        }
    }

    private void slotOrKey() {
        int k = near(0, 3);
        int i = near(0, chance(50) ? 20 : 130);
        switch (random.nextInt(5)) {
            case 0:
                due("key()", () -> x.key(), () -> model.key());
                break;
            case 1:
                due("keyAt(" + i + ")", () -> x.keyAt(i), () -> model.keyAt(i));
                break;
            case 2:
                due("keep(" + k + ")", () -> done(() -> x.keep(k)), () -> done(() -> model.keep(k)));
                break;
            case 3:
                due("compare(" + k + ")", () -> x.compare(k), () -> model.compare(k));
                break;
            default:
                due("same(" + k + ")", () -> x.same(k), () -> model.same(k));
                break;
        }
    }
}
