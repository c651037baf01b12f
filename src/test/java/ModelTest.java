import java.util.Random;
import java.util.function.LongSupplier;

/** Long runs of calls, ordinary and wrong ones, with each answer compared with the plain model's. */
public final class ModelTest {
    private static final int RUNS = 900;
    private static final int CALLS = 512;
    private static final int CALLS_OF_A_TURN = 25;
    private static final int[] ODD = {-1, 8, 16, 17, 255, 256, Integer.MIN_VALUE, Integer.MAX_VALUE};

    private final Checks checks;
    private final Random random;
    private final int run;
    private final ShadowArchive archive = new ShadowArchive();
    private final PlainModel model = new PlainModel();
    private final int greatestSide;
    private final int greatestReach;
    private int w = 1;
    private int h = 1;
    private int calls = 0;

    private ModelTest(Checks checks, int run) {
        this.checks = checks;
        this.run = run;
        random = new Random(run);
        greatestSide = run % 10 == 0 ? 16 : 2 + run % 6;
        greatestReach = run % 3 == 0 ? 16 : 1 + run % 4;
    }

    public static void main(String[] args) {
        Checks checks = new Checks();
        for (int run = 0; run < RUNS; run++) {
            new ModelTest(checks, run).play();
        }
        checks.end();
    }

    private void play() {
        while (calls + CALLS_OF_A_TURN <= CALLS) {
            if (calls == 0 || random.nextInt(120) == 0) {
                resize();
            } else if (random.nextInt(4) == 0) {
                lookAround();
            } else {
                act();
            }
        }
    }

    private void compare(String call, LongSupplier due, LongSupplier got) {
        calls++;
        String dueText = answer(due);
        String gotText = answer(got);
        checks.same("run " + run + ": " + call + " answered " + gotText + ", the model " + dueText,
                true, dueText.equals(gotText));
    }

    private static String answer(LongSupplier call) {
        try {
            return Long.toString(call.getAsLong());
        } catch (RuntimeException thrown) {
            return thrown.getClass().getName();
        }
    }

    private int below(int bound) {
        return random.nextInt(40) == 0 ? ODD[random.nextInt(ODD.length)] : random.nextInt(bound);
    }

    private int number() {
        return random.nextInt(6) == 0 ? random.nextInt() : random.nextInt(20) - 5;
    }

    private int mask() {
        return random.nextInt(3) == 0 ? 255 : below(256);
    }

    private void resize() {
        int newW = 1 + below(greatestSide);
        int newH = 1 + below(greatestSide);
        compare("size(" + newW + ", " + newH + ")",
                () -> { model.size(newW, newH); return 0; },
                () -> { archive.size(newW, newH); return 0; });
        if (newW >= 1 && newW <= 16 && newH >= 1 && newH <= 16) {
            w = newW;
            h = newH;
        }
        int aimed = random.nextInt(9);
        for (int s = 0; s < aimed; s++) {
            aim(s);
        }
        for (int i = 0; i < 6; i++) {
            draw();
        }
        for (int s = 0; s < aimed; s++) {
            fill(s);
        }
    }

    private void aim(int shelf) {
        int p = random.nextInt(2 * greatestReach + 1) - greatestReach;
        int q = random.nextInt(40) == 0 ? below(40) - 20 : random.nextInt(2 * greatestReach + 1) - greatestReach;
        compare("direction(" + shelf + ", " + p + ", " + q + ")",
                () -> { model.direction(shelf, p, q); return 0; },
                () -> { archive.direction(shelf, p, q); return 0; });
    }

    private void draw() {
        int x = below(w);
        int y = below(h);
        int v = number();
        compare("pixel(" + x + ", " + y + ", " + v + ")",
                () -> model.pixel(x, y, v), () -> archive.pixel(x, y, v));
    }

    private void fill(int shelf) {
        compare("project(" + shelf + ")",
                () -> { model.project(shelf); return 0; },
                () -> { archive.project(shelf); return 0; });
    }

    private void act() {
        int shelf = below(8);
        int k = random.nextInt(3) == 0 ? below(8) : below(480);
        int v = number();
        int mask = mask();
        boolean plus = random.nextBoolean();
        switch (random.nextInt(12)) {
            case 0 -> aim(shelf);
            case 1, 2 -> draw();
            case 3, 4 -> fill(shelf);
            case 5 -> compare("drop(" + shelf + ")",
                    () -> model.drop(shelf) ? 1 : 0, () -> archive.drop(shelf) ? 1 : 0);
            case 6 -> compare("put(" + shelf + ", " + k + ", " + v + ")",
                    () -> model.put(shelf, k, v), () -> archive.put(shelf, k, v));
            case 7 -> compare("rebuild(" + mask + ")", () -> model.rebuild(mask), () -> archive.rebuild(mask));
            case 8 -> compare("regenerate(" + shelf + ")",
                    () -> model.regenerate(shelf) ? 1 : 0, () -> archive.regenerate(shelf) ? 1 : 0);
            case 9 -> compare("audit()", model::audit, archive::audit);
            case 10 -> keepSometimes();
            default -> compare("add(" + plus + ")", () -> model.add(plus), () -> archive.add(plus));
        }
    }

    private void keepSometimes() {
        if (random.nextInt(3) == 0) {
            calls++;
            model.keep();
            archive.keep();
        } else {
            rebuildFilled();
        }
    }

    /** A mask of shelves that are filled, so that the rebuilding is not refused. */
    private void rebuildFilled() {
        int filled = 0;
        for (int s = 0; s < 8; s++) {
            int shelf = s;
            if (answer(() -> model.shelf(shelf, 3)).equals("1") && random.nextInt(5) != 0) {
                filled |= 1 << s;
            }
        }
        int mask = filled;
        compare("rebuild(" + mask + ")", () -> model.rebuild(mask), () -> archive.rebuild(mask));
        compare("about(0)", () -> model.about(0), () -> archive.about(0));
        compare("about(1)", () -> model.about(1), () -> archive.about(1));
    }

    private void lookAround() {
        int x = below(w);
        int y = below(h);
        int what = below(4);
        int shelf = below(8);
        int k = random.nextInt(2) == 0 ? below(6) : below(480);
        int mask = mask() & (random.nextBoolean() ? -1 : mask());
        switch (random.nextInt(6)) {
            case 0 -> compare("look(" + what + ", " + x + ", " + y + ")",
                    () -> model.look(what, x, y), () -> archive.look(what, x, y));
            case 1 -> compare("shelf(" + shelf + ", " + what + ")",
                    () -> model.shelf(shelf, what), () -> archive.shelf(shelf, what));
            case 2 -> compare("bin(" + shelf + ", " + k + ")",
                    () -> model.bin(shelf, k), () -> archive.bin(shelf, k));
            case 3 -> compare("enough(" + mask + ")",
                    () -> model.enough(mask) ? 1 : 0, () -> archive.enough(mask) ? 1 : 0);
            case 4 -> compare("about(" + what + ")", () -> model.about(what), () -> archive.about(what));
            default -> compare("ghost(" + mask + ", " + x + ", " + y + ")",
                    () -> model.ghost(mask, x, y), () -> archive.ghost(mask, x, y));
        }
    }
}
