import java.util.Arrays;

/**
 * Keeps pictures as sums along whole-number directions: shelves of bins, from which a picture is
 * rebuilt bin by bin when they are enough, a lost shelf made anew, a wrong one found.
 */
public final class ShadowArchive {
    public static final int NONE = -1;
    public static final int MANY = 99;

    private static final int SHELVES = 8;
    private static final int GREATEST_MASK = (1 << SHELVES) - 1;
    private static final int SIDE = 16;
    private static final int CELLS = SIDE * SIDE;
    private static final int REACH = 16;
    private static final int MOST_BINS = 2 * REACH * (SIDE - 1) + 1;

    private static final int PICTURE = 0;
    private static final int KEPT = 1;
    private static final int REBUILT = 2;

    private int w = 1;
    private int h = 1;
    private final int[] picture = new int[CELLS];
    private final Shelf[] shelves = new Shelf[SHELVES];

    private boolean hasKept = false;
    private final int[] kept = new int[CELLS];
    private final Shelf[] keptShelves = new Shelf[SHELVES];

    private boolean hasRebuilt = false;
    private final int[] rebuilt = new int[CELLS];
    private int steps = 0;
    private int wrongBin = NONE;

    private final int[] draft = new int[CELLS];
    private final Worksheet[] sheets = new Worksheet[SHELVES];
    private final int[] ghostCells = new int[CELLS];

    public ShadowArchive() {
        for (int s = 0; s < SHELVES; s++) {
            shelves[s] = new Shelf();
            keptShelves[s] = new Shelf();
            sheets[s] = new Worksheet();
        }
    }

    public void size(int w, int h) throws IllegalArgumentException {
        if (w < 1 || w > SIDE || h < 1 || h > SIDE) {
            throw new IllegalArgumentException("a picture has 1 to 16 columns and 1 to 16 rows");
        }
        this.w = w;
        this.h = h;
        Arrays.fill(picture, 0);
        for (int s = 0; s < SHELVES; s++) {
            shelves[s].unaim();
        }
        hasKept = false;
        hasRebuilt = false;
    }

    public int pixel(int x, int y, int v) throws IndexOutOfBoundsException {
        requirePixel(x, y);
        int cell = cellAt(x, y);
        int before = picture[cell];
        picture[cell] = v;
        return before;
    }

    public int look(int what, int x, int y) throws IndexOutOfBoundsException, IllegalStateException {
        requirePixel(x, y);
        int cell = cellAt(x, y);
        switch (what) {
            case PICTURE:
                return picture[cell];
            case KEPT:
                requireState(hasKept);
                return kept[cell];
            case REBUILT:
                requireState(hasRebuilt);
                return rebuilt[cell];
            default:
                throw new IndexOutOfBoundsException("what is 0, 1 or 2");
        }
    }

    public void direction(int shelf, int p, int q) throws IndexOutOfBoundsException, IllegalArgumentException {
        requireShelf(shelf);
        if (!isDirection(p, q)) {
            throw new IllegalArgumentException("no direction");
        }
        boolean turned = q < 0 || q == 0 && p < 0;
        int toldP = turned ? -p : p;
        int toldQ = turned ? -q : q;
        if (anotherHas(shelf, toldP, toldQ)) {
            throw new IllegalArgumentException("another shelf has this direction");
        }
        shelves[shelf].aim(toldP, toldQ, w, h);
    }

    public int shelf(int shelf, int what) throws IndexOutOfBoundsException, IllegalStateException {
        requireShelf(shelf);
        if (what < 0 || what > 3) {
            throw new IndexOutOfBoundsException("what is 0 to 3");
        }
        Shelf told = shelves[shelf];
        requireState(told.aimed);
        switch (what) {
            case 0:
                return told.p;
            case 1:
                return told.q;
            case 2:
                return told.count;
            default:
                return told.filled ? 1 : 0;
        }
    }

    public void project(int shelf) throws IndexOutOfBoundsException, IllegalStateException {
        requireShelf(shelf);
        requireState(shelves[shelf].aimed);
        shelves[shelf].fillFrom(picture, w, h);
    }

    public boolean drop(int shelf) throws IndexOutOfBoundsException {
        requireShelf(shelf);
        boolean before = shelves[shelf].filled;
        shelves[shelf].filled = false;
        return before;
    }

    public int bin(int shelf, int k) throws IndexOutOfBoundsException, IllegalStateException {
        requireBin(shelf, k);
        return shelves[shelf].bins[k];
    }

    public int put(int shelf, int k, int v) throws IndexOutOfBoundsException, IllegalStateException {
        requireBin(shelf, k);
        int[] bins = shelves[shelf].bins;
        int before = bins[k];
        bins[k] = v;
        return before;
    }

    public boolean enough(int mask) throws IllegalArgumentException {
        requireMask(mask);
        return areEnough(aimedOf(mask));
    }

    public int rebuild(int mask) throws IllegalArgumentException, IllegalStateException {
        requireMask(mask);
        int used = aimedOf(mask);
        requireState((used & ~filledShelves()) == 0);
        steps = solve(used);
        wrongBin = NONE;
        if (steps < w * h) {
            return NONE;
        }
        System.arraycopy(draft, 0, rebuilt, 0, CELLS);
        hasRebuilt = true;
        int wrong = lowestWrongShelf(used);
        if (wrong == NONE) {
            return MANY;
        }
        wrongBin = sheets[wrong].lowestWrongBin();
        return wrong;
    }

    public int about(int what) throws IllegalArgumentException {
        switch (what) {
            case 0:
                return steps;
            case 1:
                return wrongBin;
            default:
                throw new IllegalArgumentException("what is 0 or 1");
        }
    }

    public boolean regenerate(int shelf) throws IndexOutOfBoundsException, IllegalStateException {
        requireShelf(shelf);
        Shelf lost = shelves[shelf];
        requireState(lost.aimed && !lost.filled);
        if (solve(filledShelves()) < w * h) {
            return false;
        }
        lost.fillFrom(draft, w, h);
        return true;
    }

    public int audit() {
        int filled = filledShelves();
        if (areOfOnePicture(filled)) {
            return NONE;
        }
        for (int s = 0; s < SHELVES; s++) {
            if (isIn(filled, s) && areOfOnePicture(filled & ~(1 << s))) {
                return s;
            }
        }
        return MANY;
    }

    public int ghost(int mask, int x, int y)
            throws IllegalArgumentException, IndexOutOfBoundsException, IllegalStateException {
        requireMask(mask);
        requirePixel(x, y);
        int used = aimedOf(mask);
        requireState(!areEnough(used));
        drawGhost(used);
        return ghostCells[cellAt(x, y)];
    }

    public void keep() {
        System.arraycopy(picture, 0, kept, 0, CELLS);
        for (int s = 0; s < SHELVES; s++) {
            keptShelves[s].copyFrom(shelves[s]);
        }
        hasKept = true;
    }

    public int add(boolean plus) throws IllegalStateException {
        requireState(hasKept);
        addEach(picture, kept, CELLS, plus);
        int stay = 0;
        for (int s = 0; s < SHELVES; s++) {
            shelves[s].addShelf(keptShelves[s], plus);
            stay += shelves[s].filled ? 1 : 0;
        }
        return stay;
    }

    private void requirePixel(int x, int y) {
        if (x < 0 || x >= w || y < 0 || y >= h) {
            throw new IndexOutOfBoundsException("no such pixel");
        }
    }

    private static void requireShelf(int shelf) {
        if (shelf < 0 || shelf >= SHELVES) {
            throw new IndexOutOfBoundsException("no such shelf");
        }
    }

    private void requireBin(int shelf, int k) {
        requireShelf(shelf);
        requireState(shelves[shelf].filled);
        if (k < 0 || k >= shelves[shelf].count) {
            throw new IndexOutOfBoundsException("no such bin");
        }
    }

    private static void requireMask(int mask) {
        if (mask < 0 || mask > GREATEST_MASK) {
            throw new IllegalArgumentException("a mask is 0 to 255");
        }
    }

    private static void requireState(boolean holds) {
        if (!holds) {
            throw new IllegalStateException("not in this state");
        }
    }

    // The rows are as long for every picture, so that a size needs no new array.
    private static int cellAt(int x, int y) {
        return y * SIDE + x;
    }

    private static boolean isIn(int mask, int s) {
        return (mask >> s & 1) == 1;
    }

    private static boolean isDirection(int p, int q) {
        if (p < -REACH || p > REACH || q < -REACH || q > REACH) {
            return false;
        }
        // (0, 0) goes out here too: every factor divides both.
        for (int factor = 2; factor <= REACH; factor++) {
            if (p % factor == 0 && q % factor == 0) {
                return false;
            }
        }
        return true;
    }

    private boolean anotherHas(int shelf, int p, int q) {
        for (int s = 0; s < SHELVES; s++) {
            if (s != shelf && shelves[s].aimed && shelves[s].goesAlong(p, q)) {
                return true;
            }
        }
        return false;
    }

    private int aimedOf(int mask) {
        int aimed = 0;
        for (int s = 0; s < SHELVES; s++) {
            if (isIn(mask, s) && shelves[s].aimed) {
                aimed |= 1 << s;
            }
        }
        return aimed;
    }

    private int filledShelves() {
        int filled = 0;
        for (int s = 0; s < SHELVES; s++) {
            if (shelves[s].filled) {
                filled |= 1 << s;
            }
        }
        return filled;
    }

    private boolean areEnough(int used) {
        int across = 0;
        int down = 0;
        for (int s = 0; s < SHELVES; s++) {
            if (isIn(used, s)) {
                across += Math.abs(shelves[s].p);
                down += shelves[s].q;
            }
        }
        return across >= w || down >= h;
    }

    private boolean areOfOnePicture(int used) {
        return solve(used) == w * h && lowestWrongShelf(used) == NONE;
    }

    /** Rebuilds into the draft, from filled shelves; answers how many pixels became known. */
    private int solve(int used) {
        for (int s = 0; s < SHELVES; s++) {
            if (isIn(used, s)) {
                sheets[s].begin(shelves[s], w, h);
            }
        }
        int pixels = w * h;
        for (int known = 0; known < pixels; known++) {
            int s = lowestReadyShelf(used);
            if (s == NONE) {
                return known;
            }
            makeKnown(used, sheets[s].readyCell(), sheets[s].readyNumber());
        }
        return pixels;
    }

    private int lowestReadyShelf(int used) {
        for (int s = 0; s < SHELVES; s++) {
            if (isIn(used, s) && sheets[s].findReadyBin()) {
                return s;
            }
        }
        return NONE;
    }

    private void makeKnown(int used, int cell, int v) {
        draft[cell] = v;
        int x = cell % SIDE;
        int y = cell / SIDE;
        for (int s = 0; s < SHELVES; s++) {
            if (isIn(used, s)) {
                sheets[s].takeOut(shelves[s].binAt(x, y), cell, v);
            }
        }
    }

    private int lowestWrongShelf(int used) {
        for (int s = 0; s < SHELVES; s++) {
            if (isIn(used, s) && sheets[s].lowestWrongBin() != NONE) {
                return s;
            }
        }
        return NONE;
    }

    private void drawGhost(int used) {
        Arrays.fill(ghostCells, 0);
        // Each p below 0 shifts the lowest column by p, so starting this far right makes it end at 0;
        // shelves that are not enough never leave the picture from there.
        int start = 0;
        for (int s = 0; s < SHELVES; s++) {
            if (isIn(used, s)) {
                start += Math.max(0, -shelves[s].p);
            }
        }
        ghostCells[cellAt(start, 0)] = 1;
        for (int s = 0; s < SHELVES; s++) {
            if (isIn(used, s)) {
                takeGhostMoved(shelves[s].p, shelves[s].q);
            }
        }
    }

    // From the last pixel to the first, so that what is taken away is still the former number.
    private void takeGhostMoved(int p, int q) {
        for (int y = h - 1; y >= q; y--) {
            for (int x = w - 1; x >= 0; x--) {
                int from = x - p;
                if (from >= 0 && from < w) {
                    ghostCells[cellAt(x, y)] -= ghostCells[cellAt(from, y - q)];
                }
            }
        }
    }

    private static void addEach(int[] to, int[] from, int count, boolean plus) {
        for (int i = 0; i < count; i++) {
            to[i] += plus ? from[i] : -from[i];
        }
    }

    /** A shelf: its direction, if it has one, and its bins. Only a shelf with a direction is filled. */
    private static final class Shelf {
        boolean aimed = false;
        boolean filled = false;
        int p = 0;
        int q = 0;
        int least = 0;
        int count = 0;
        int[] bins = new int[0];

        void unaim() {
            aimed = false;
            filled = false;
        }

        void aim(int p, int q, int w, int h) {
            this.p = p;
            this.q = q;
            least = Math.min(0, p * (h - 1)) - q * (w - 1);
            count = Math.abs(p) * (h - 1) + q * (w - 1) + 1;
            aimed = true;
            filled = false;
            makeBins();
        }

        // Once and for every size: most shelves of most objects never get a direction.
        private void makeBins() {
            if (bins.length == 0) {
                bins = new int[MOST_BINS];
            }
        }

        boolean goesAlong(int p, int q) {
            return this.p == p && this.q == q;
        }

        int binAt(int x, int y) {
            return p * y - q * x - least;
        }

        void fillFrom(int[] cells, int w, int h) {
            Arrays.fill(bins, 0);
            for (int y = 0; y < h; y++) {
                for (int x = 0; x < w; x++) {
                    bins[binAt(x, y)] += cells[cellAt(x, y)];
                }
            }
            filled = true;
        }

        void copyFrom(Shelf other) {
            aimed = other.aimed;
            filled = other.filled;
            p = other.p;
            q = other.q;
            least = other.least;
            count = other.count;
            if (filled) {
                makeBins();
                System.arraycopy(other.bins, 0, bins, 0, count);
            }
        }

        void addShelf(Shelf other, boolean plus) {
            filled = filled && other.filled && other.goesAlong(p, q);
            if (filled) {
                addEach(bins, other.bins, count, plus);
            }
        }
    }

    /** What a rebuilding still lacks of one shelf, bin by bin. */
    private static final class Worksheet {
        private int count = 0;
        private int lowest = 0;
        private int[] unknown = new int[0];
        private int[] unknownCells = new int[0];
        private int[] rest = new int[0];

        void begin(Shelf shelf, int w, int h) {
            makeRows();
            count = shelf.count;
            lowest = 0;
            Arrays.fill(unknown, 0);
            Arrays.fill(unknownCells, 0);
            System.arraycopy(shelf.bins, 0, rest, 0, count);
            for (int y = 0; y < h; y++) {
                for (int x = 0; x < w; x++) {
                    int k = shelf.binAt(x, y);
                    unknown[k]++;
                    unknownCells[k] += cellAt(x, y);
                }
            }
        }

        private void makeRows() {
            if (rest.length == 0) {
                unknown = new int[MOST_BINS];
                unknownCells = new int[MOST_BINS];
                rest = new int[MOST_BINS];
            }
        }

        // No bin below the lowest is ready (takeOut sees to that), so the search goes on from there.
        boolean findReadyBin() {
            while (lowest < count && unknown[lowest] != 1) {
                lowest++;
            }
            return lowest < count;
        }

        // The sum of the cells not known is the cell itself where there is just one.
        int readyCell() {
            return unknownCells[lowest];
        }

        int readyNumber() {
            return rest[lowest];
        }

        void takeOut(int k, int cell, int v) {
            unknown[k]--;
            unknownCells[k] -= cell;
            rest[k] -= v;
            if (unknown[k] == 1 && k < lowest) {
                lowest = k;
            }
        }

        // When all pixels are known, a bin agrees if nothing of its number is left.
        int lowestWrongBin() {
            for (int k = 0; k < count; k++) {
                if (rest[k] != 0) {
                    return k;
                }
            }
            return NONE;
        }
    }
}
