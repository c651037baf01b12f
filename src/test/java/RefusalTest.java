import java.util.function.Consumer;
import java.util.function.IntSupplier;
import java.util.function.Supplier;

/**
 * A refused call throws what the document says and changes nothing; nor does one that only asks. Each is
 * made on one of two objects that are alike, of which then everything that can be told must be the same.
 */
public final class RefusalTest extends Checks {
    private static final int[] NO_SHELF = {-1, 8, 9, LEAST, GREATEST};
    private static final int[] NO_MASK = {-1, 256, 257, LEAST, GREATEST};
    private static final int[][] NO_PIXEL = {{-1, 0}, {0, -1}, {3, 0}, {0, 2}, {16, 0}, {0, 16}, {LEAST, LEAST},
        {GREATEST, GREATEST}};

    public static void main(String[] args) {
        RefusalTest test = new RefusalTest();
        test.run(
                test::noSuchSize,
                test::noSuchPixel,
                test::noSuchShelf,
                test::noSuchDirection,
                test::noSuchBin,
                test::noSuchMask,
                test::noSuchWhat,
                test::noSuchState,
                test::nothingKeptOrRebuilt,
                test::questionsChangeNothing);
    }

    /** Shelves 0 to 3 filled, 1 of them wrong, 4 empty, 5 to 7 without a direction; kept and rebuilt pictures. */
    private static ShadowArchive busy() {
        ShadowArchive archive = sixPixels();
        archive.direction(4, 3, 1);
        projectAll(archive, 0, 1, 2, 3);
        archive.put(1, 0, 60);
        archive.keep();
        archive.rebuild(7);
        archive.pixel(1, 1, -5);
        archive.project(3);
        return archive;
    }

    private void refused(String what, Class<? extends RuntimeException> due, Consumer<ShadowArchive> call) {
        refusedBy(RefusalTest::busy, what, due, call);
    }

    private void refusedBy(Supplier<ShadowArchive> start, String what, Class<? extends RuntimeException> due,
            Consumer<ShadowArchive> call) {
        ShadowArchive archive = start.get();
        refuses(what, due, () -> call.accept(archive));
        same(what + " changes nothing", everythingTwice(start.get()), everythingTwice(archive));
    }

    /** What is kept with the shelves shows only when it is added. */
    private static String everythingTwice(ShadowArchive archive) {
        StringBuilder all = new StringBuilder(everything(archive));
        tell(all, () -> archive.add(true));
        return all + everything(archive);
    }

    private static String everything(ShadowArchive archive) {
        StringBuilder all = new StringBuilder();
        for (int cell = 0; cell < 12; cell++) {
            int x = cell % 4;
            int y = cell / 4;
            for (int what = 0; what < 3; what++) {
                int which = what;
                tell(all, () -> archive.look(which, x, y));
            }
        }
        for (int s = 0; s < 8; s++) {
            int shelf = s;
            for (int what = 0; what < 4; what++) {
                int which = what;
                tell(all, () -> archive.shelf(shelf, which));
            }
            for (int bin = 0; bin < 6; bin++) {
                int k = bin;
                tell(all, () -> archive.bin(shelf, k));
            }
        }
        tell(all, () -> archive.about(0));
        tell(all, () -> archive.about(1));
        return all.toString();
    }

    private static void tell(StringBuilder all, IntSupplier call) {
        try {
            all.append(call.getAsInt()).append(' ');
        } catch (RuntimeException thrown) {
            all.append(thrown.getClass().getSimpleName()).append(' ');
        }
    }

    private void noSuchSize() {
        sentence("2: IllegalArgumentException, when w or h is not 1 .. 16.");
        int[][] sizes = {{0, 2}, {3, 0}, {17, 2}, {3, 17}, {-1, 2}, {3, -1}, {LEAST, 2}, {3, GREATEST}, {0, 17}};
        for (int[] size : sizes) {
            refused("size(" + size[0] + ", " + size[1] + ")", ARGUMENT, a -> a.size(size[0], size[1]));
        }
    }

    private void noSuchPixel() {
        sentence("3, 4, 16: IndexOutOfBoundsException, when there is no such pixel");
        for (int[] at : NO_PIXEL) {
            String where = at[0] + ", " + at[1] + ")";
            refused("pixel(" + where, INDEX, a -> a.pixel(at[0], at[1], 77));
            refused("look(0, " + where, INDEX, a -> a.look(0, at[0], at[1]));
            refused("look(1, " + where, INDEX, a -> a.look(1, at[0], at[1]));
            refused("look(2, " + where, INDEX, a -> a.look(2, at[0], at[1]));
            refused("ghost(0, " + where, INDEX, a -> a.ghost(0, at[0], at[1]));
        }
    }

    private void noSuchShelf() {
        sentence("5 to 10, 14: IndexOutOfBoundsException, when there is no such shelf");
        for (int s : NO_SHELF) {
            refused("direction(" + s + ")", INDEX, a -> a.direction(s, 1, 2));
            refused("shelf(" + s + ")", INDEX, a -> a.shelf(s, 0));
            refused("project(" + s + ")", INDEX, a -> a.project(s));
            refused("drop(" + s + ")", INDEX, a -> a.drop(s));
            refused("bin(" + s + ")", INDEX, a -> a.bin(s, 0));
            refused("put(" + s + ")", INDEX, a -> a.put(s, 0, 77));
            refused("regenerate(" + s + ")", INDEX, a -> a.regenerate(s));
        }
    }

    private void noSuchDirection() {
        sentence("5: IllegalArgumentException, when they are none, or another shelf has it.");
        int[][] none = {{0, 0}, {2, 2}, {0, 3}, {-4, 0}, {17, 1}, {1, -17}, {LEAST, 1}, {1, 0}, {-1, 0}, {3, 1}};
        for (int[] d : none) {
            String what = d[0] + ", " + d[1] + ")";
            refused("direction(0, " + what, ARGUMENT, a -> a.direction(0, d[0], d[1]));
            refused("direction(7, " + what, ARGUMENT, a -> a.direction(7, d[0], d[1]));
        }
        refused("of an empty shelf", ARGUMENT, a -> a.direction(4, 2, -1));
    }

    private void noSuchBin() {
        sentence("9, 10: else IndexOutOfBoundsException, when it has no such bin");
        for (int k : new int[] {-1, 3, 4, 480, 481, LEAST, GREATEST}) {
            refused("bin(0, " + k + ")", INDEX, a -> a.bin(0, k));
            refused("put(0, " + k + ")", INDEX, a -> a.put(0, k, 77));
        }
    }

    private void noSuchMask() {
        sentence("11, 12, 16: IllegalArgumentException, when mask is not 0 .. 255.");
        for (int mask : NO_MASK) {
            refused("enough(" + mask + ")", ARGUMENT, a -> a.enough(mask));
            refused("rebuild(" + mask + ")", ARGUMENT, a -> a.rebuild(mask));
            refused("ghost(" + mask + ")", ARGUMENT, a -> a.ghost(mask, 0, 0));
        }
    }

    private void noSuchWhat() {
        sentence("4, 6: IndexOutOfBoundsException, when there is no such .. what; 13: IllegalArgumentException");
        for (int what : new int[] {-1, 4, LEAST, GREATEST}) {
            refused("look(" + what + ")", INDEX, a -> a.look(what, 0, 0));
            refused("shelf(0, " + what + ")", INDEX, a -> a.shelf(0, what));
            refused("about(" + what + ")", ARGUMENT, a -> a.about(what));
        }
        refused("look(3)", INDEX, a -> a.look(3, 0, 0));
        refused("about(2)", ARGUMENT, a -> a.about(2));
    }

    private void noSuchState() {
        sentence("6, 7, 9, 10, 12, 14, 16: IllegalStateException, when it has no direction, is empty, is filled,"
                + " or they are enough");
        for (int s = 5; s < 8; s++) {
            int shelf = s;
            refused("shelf(" + s + ")", STATE, a -> a.shelf(shelf, 0));
            refused("project(" + s + ")", STATE, a -> a.project(shelf));
            refused("bin(" + s + ")", STATE, a -> a.bin(shelf, 0));
            refused("put(" + s + ")", STATE, a -> a.put(shelf, 0, 77));
            refused("regenerate(" + s + ")", STATE, a -> a.regenerate(shelf));
        }
        for (int s = 0; s < 4; s++) {
            int shelf = s;
            refused("regenerate(" + s + ")", STATE, a -> a.regenerate(shelf));
        }
        refused("bin of an empty one", STATE, a -> a.bin(4, 0));
        refused("put to an empty one", STATE, a -> a.put(4, 0, 77));
        for (int mask : new int[] {16, 23, 31, 255}) {
            refused("rebuild(" + mask + ")", STATE, a -> a.rebuild(mask));
        }
        for (int mask : new int[] {7, 16, 255}) {
            refused("ghost(" + mask + ")", STATE, a -> a.ghost(mask, 0, 0));
        }
    }

    private void nothingKeptOrRebuilt() {
        sentence("4: IllegalStateException, when there is no such picture; 18: when nothing is kept");
        refusedBy(Checks::sixPixels, "look(1)", STATE, a -> a.look(1, 0, 0));
        refusedBy(Checks::sixPixels, "look(2)", STATE, a -> a.look(2, 0, 0));
        refusedBy(Checks::sixPixels, "add(true)", STATE, a -> a.add(true));
        refusedBy(Checks::sixPixels, "add(false)", STATE, a -> a.add(false));
    }

    private void questionsChangeNothing() {
        sentence("4, 6, 9, 11, 13, 15, 16: what only asks changes nothing");
        asked("look", a -> a.look(0, 2, 1));
        asked("look at the kept one", a -> a.look(1, 2, 1));
        asked("look at the rebuilt one", a -> a.look(2, 2, 1));
        asked("shelf", a -> a.shelf(4, 2));
        asked("bin", a -> a.bin(3, 4));
        asked("enough", a -> a.enough(255));
        asked("about", a -> a.about(1));
        asked("audit", a -> a.audit());
        asked("ghost", a -> a.ghost(4, 1, 1));
        asked("drop of an empty one", a -> a.drop(4));
        asked("drop of one without a direction", a -> a.drop(7));
    }

    private void asked(String what, Consumer<ShadowArchive> call) {
        ShadowArchive archive = busy();
        call.accept(archive);
        same(what + " changes nothing", everythingTwice(busy()), everythingTwice(archive));
    }
}
