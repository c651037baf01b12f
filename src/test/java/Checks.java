/** What the tests share: checks that are counted, with those printed that fail, and small archives. */
class Checks {
    static final Class<IllegalArgumentException> ARGUMENT = IllegalArgumentException.class;
    static final Class<IndexOutOfBoundsException> INDEX = IndexOutOfBoundsException.class;
    static final Class<IllegalStateException> STATE = IllegalStateException.class;
    static final int LEAST = Integer.MIN_VALUE;
    static final int GREATEST = Integer.MAX_VALUE;
    static final int NONE = -1;
    static final int MANY = 99;

    interface Call {
        void run();
    }

    private int made = 0;
    private int wrong = 0;
    private String sentence = "";
    private int madeBefore = -1;

    /** Runs each test and ends; what one of them throws does not keep the next from being run. */
    final void run(Call... tests) {
        for (Call test : tests) {
            try {
                test.run();
            } catch (RuntimeException thrown) {
                report("threw " + thrown);
            }
        }
        end();
    }

    /** The words of the document that the checks from here on are for. */
    final void sentence(String words) {
        if (made == madeBefore) {
            report("no check is made");
        }
        sentence = words + " | ";
        madeBefore = made;
    }

    final void same(String what, long due, long got) {
        made++;
        if (got != due) {
            report(what + " answered " + got + ", due is " + due);
        }
    }

    final void same(String what, boolean due, boolean got) {
        same(what, due ? 1 : 0, got ? 1 : 0);
    }

    final void same(String what, String due, String got) {
        made++;
        if (!got.equals(due)) {
            report(what + " answered " + got + ", due is " + due);
        }
    }

    /** The very class is due: an ArrayIndexOutOfBoundsException would be a fault of the program itself. */
    final void refuses(String what, Class<? extends RuntimeException> due, Call call) {
        made++;
        try {
            call.run();
        } catch (RuntimeException thrown) {
            if (thrown.getClass() != due) {
                report(what + " threw " + thrown + ", due is " + due.getName());
            }
            return;
        }
        report(what + " threw nothing, due is " + due.getName());
    }

    final void report(String text) {
        wrong++;
        System.out.println(sentence + text);
    }

    final void end() {
        sentence("the end");
        System.out.println(made + " checks, " + wrong + " wrong");
        if (wrong != 0 || made == 0) {
            System.exit(1);
        }
    }

    final void bins(String what, ShadowArchive archive, int shelf, int... due) {
        same(what + ": bins", due.length, archive.shelf(shelf, 2));
        for (int k = 0; k < due.length; k++) {
            same(what + ": bin " + k, due[k], archive.bin(shelf, k));
        }
    }

    /** Of a picture (look's what) each pixel, row by row. */
    final void pixels(String message, ShadowArchive archive, int what, int[][] due) {
        for (int y = 0; y < due.length; y++) {
            for (int x = 0; x < due[y].length; x++) {
                same(message + " at (" + x + ", " + y + ")", due[y][x], archive.look(what, x, y));
            }
        }
    }

    final void ghostIs(String message, ShadowArchive archive, int mask, int[][] due) {
        for (int y = 0; y < due.length; y++) {
            for (int x = 0; x < due[y].length; x++) {
                same(message + " at (" + x + ", " + y + ")", due[y][x], archive.ghost(mask, x, y));
            }
        }
    }

    /** A picture of w times h, all 0, with directions for the shelves from 0 on, of which none is filled. */
    static ShadowArchive sized(int w, int h, int[]... directions) {
        ShadowArchive archive = new ShadowArchive();
        archive.size(w, h);
        for (int s = 0; s < directions.length; s++) {
            archive.direction(s, directions[s][0], directions[s][1]);
        }
        return archive;
    }

    static int[] to(int p, int q) {
        return new int[] {p, q};
    }

    /** 1 2 3 / 4 5 6, with the shelves (0, 1), (1, 0), (1, 1), (-2, 1), of which none is filled. */
    static ShadowArchive sixPixels() {
        ShadowArchive archive = sized(3, 2, to(0, 1), to(1, 0), to(1, 1), to(-2, 1));
        for (int cell = 0; cell < 6; cell++) {
            archive.pixel(cell % 3, cell / 3, cell + 1);
        }
        return archive;
    }

    static void projectAll(ShadowArchive archive, int... shelves) {
        for (int shelf : shelves) {
            archive.project(shelf);
        }
    }

    /** 2 times 2, two shelves with numbers that are of no picture: it shows which bin each pixel is from. */
    static ShadowArchive cornersOfTwoDiagonals(int[] first, int[] second) {
        ShadowArchive archive = sized(2, 2, first, second);
        projectAll(archive, 0, 1);
        archive.put(0, 0, 1);
        archive.put(0, 1, 10);
        archive.put(0, 2, 100);
        archive.put(1, 0, 1000);
        archive.put(1, 1, 5);
        archive.put(1, 2, 10000);
        return archive;
    }
}
