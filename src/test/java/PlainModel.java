import java.util.ArrayList;
import java.util.HashMap;
import java.util.List;
import java.util.Map;

/**
 * The document in its plainest form, for tests: every answer is searched for anew, nothing is kept
 * that can be counted again. It shares no code and no short cut with the class.
 */
final class PlainModel {
    private static final class Bins {
        int p;
        int q;
        int[] numbers; // null: empty

        Bins copy() {
            Bins copy = new Bins();
            copy.p = p;
            copy.q = q;
            copy.numbers = numbers == null ? null : numbers.clone();
            return copy;
        }
    }

    private static final class Rebuilding {
        final Integer[][] pixels;
        int steps = 0;

        Rebuilding(int w, int h) {
            pixels = new Integer[w][h];
        }
    }

    private int[][] picture = new int[1][1];
    private int[][] kept = null;
    private int[][] rebuilt = null;
    private Bins[] shelves = new Bins[8];
    private Bins[] keptShelves = null;
    private int steps = 0;
    private int wrongBin = -1;

    void size(int w, int h) {
        argument(w >= 1 && w <= 16 && h >= 1 && h <= 16);
        picture = new int[w][h];
        shelves = new Bins[8];
        kept = null;
        keptShelves = null;
        rebuilt = null;
    }

    int pixel(int x, int y, int v) {
        pixelThere(x, y);
        int was = picture[x][y];
        picture[x][y] = v;
        return was;
    }

    int look(int what, int x, int y) {
        pixelThere(x, y);
        index(what >= 0 && what <= 2);
        int[][] looked = what == 0 ? picture : what == 1 ? kept : rebuilt;
        state(looked != null);
        return looked[x][y];
    }

    void direction(int shelf, int p, int q) {
        shelfThere(shelf);
        argument(p >= -16 && p <= 16 && q >= -16 && q <= 16);
        argument(gcd(Math.abs(p), Math.abs(q)) == 1);
        Bins made = new Bins();
        made.p = q > 0 || q == 0 && p == 1 ? p : -p;
        made.q = Math.abs(q);
        for (int s = 0; s < 8; s++) {
            argument(s == shelf || shelves[s] == null || shelves[s].p != made.p || shelves[s].q != made.q);
        }
        shelves[shelf] = made;
    }

    int shelf(int shelf, int what) {
        shelfThere(shelf);
        index(what >= 0 && what <= 3);
        Bins told = shelves[shelf];
        state(told != null);
        int[] answers = {told.p, told.q, binCount(told), told.numbers != null ? 1 : 0};
        return answers[what];
    }

    void project(int shelf) {
        shelfThere(shelf);
        state(shelves[shelf] != null);
        shelves[shelf].numbers = sums(shelves[shelf], picture);
    }

    boolean drop(int shelf) {
        shelfThere(shelf);
        boolean was = shelves[shelf] != null && shelves[shelf].numbers != null;
        if (was) {
            shelves[shelf].numbers = null;
        }
        return was;
    }

    int bin(int shelf, int k) {
        shelfThere(shelf);
        state(shelves[shelf] != null && shelves[shelf].numbers != null);
        index(k >= 0 && k < shelves[shelf].numbers.length);
        return shelves[shelf].numbers[k];
    }

    int put(int shelf, int k, int v) {
        int was = bin(shelf, k);
        shelves[shelf].numbers[k] = v;
        return was;
    }

    boolean enough(int mask) {
        argument(mask >= 0 && mask <= 255);
        int p = 0;
        int q = 0;
        for (int s : withDirection(mask)) {
            p += Math.abs(shelves[s].p);
            q += Math.abs(shelves[s].q);
        }
        return p >= picture.length || q >= picture[0].length;
    }

    int rebuild(int mask) {
        argument(mask >= 0 && mask <= 255);
        List<Integer> used = withDirection(mask);
        for (int s : used) {
            state(shelves[s].numbers != null);
        }
        Rebuilding rebuilding = rebuilding(used);
        steps = rebuilding.steps;
        wrongBin = -1;
        int[][] whole = whole(rebuilding);
        if (whole == null) {
            return -1;
        }
        rebuilt = whole;
        for (int s : used) {
            int[] sums = sums(shelves[s], whole);
            for (int k = 0; k < sums.length; k++) {
                if (sums[k] != shelves[s].numbers[k]) {
                    wrongBin = k;
                    return s;
                }
            }
        }
        return 99;
    }

    int about(int what) {
        argument(what == 0 || what == 1);
        return what == 0 ? steps : wrongBin;
    }

    boolean regenerate(int shelf) {
        shelfThere(shelf);
        state(shelves[shelf] != null && shelves[shelf].numbers == null);
        int[][] whole = whole(rebuilding(filled()));
        if (whole == null) {
            return false;
        }
        shelves[shelf].numbers = sums(shelves[shelf], whole);
        return true;
    }

    int audit() {
        if (agreeing(filled())) {
            return -1;
        }
        for (int s : filled()) {
            List<Integer> others = filled();
            others.remove(Integer.valueOf(s));
            if (agreeing(others)) {
                return s;
            }
        }
        return 99;
    }

    int ghost(int mask, int x, int y) {
        argument(mask >= 0 && mask <= 255);
        pixelThere(x, y);
        state(!enough(mask));
        Map<List<Integer>, Integer> ghost = new HashMap<>();
        ghost.put(List.of(0, 0), 1);
        for (int s : withDirection(mask)) {
            Map<List<Integer>, Integer> next = new HashMap<>(ghost);
            for (Map.Entry<List<Integer>, Integer> e : ghost.entrySet()) {
                List<Integer> moved = List.of(e.getKey().get(0) + shelves[s].p, e.getKey().get(1) + shelves[s].q);
                next.merge(moved, -e.getValue(), Integer::sum);
            }
            ghost = next;
        }
        int lowest = Integer.MAX_VALUE;
        for (Map.Entry<List<Integer>, Integer> e : ghost.entrySet()) {
            if (e.getValue() != 0) {
                lowest = Math.min(lowest, e.getKey().get(0));
            }
        }
        return ghost.getOrDefault(List.of(x + lowest, y), 0);
    }

    void keep() {
        kept = copy(picture);
        keptShelves = new Bins[8];
        for (int s = 0; s < 8; s++) {
            keptShelves[s] = shelves[s] == null ? null : shelves[s].copy();
        }
    }

    int add(boolean plus) {
        state(kept != null);
        int sign = plus ? 1 : -1;
        for (int x = 0; x < picture.length; x++) {
            for (int y = 0; y < picture[0].length; y++) {
                picture[x][y] += sign * kept[x][y];
            }
        }
        for (int s : filled()) {
            Bins own = shelves[s];
            Bins other = keptShelves[s];
            if (other == null || other.numbers == null || other.p != own.p || other.q != own.q) {
                own.numbers = null;
                continue;
            }
            for (int k = 0; k < own.numbers.length; k++) {
                own.numbers[k] += sign * other.numbers[k];
            }
        }
        return filled().size();
    }

    private Rebuilding rebuilding(List<Integer> used) {
        Rebuilding at = new Rebuilding(picture.length, picture[0].length);
        while (step(at, used)) {
            at.steps++;
        }
        return at;
    }

    private boolean step(Rebuilding at, List<Integer> used) {
        for (int s : used) {
            Bins bins = shelves[s];
            int[] unknown = new int[bins.numbers.length];
            int[] rest = bins.numbers.clone();
            int least = least(bins);
            for (int x = 0; x < picture.length; x++) {
                for (int y = 0; y < picture[0].length; y++) {
                    int k = along(bins, x, y) - least;
                    if (at.pixels[x][y] == null) {
                        unknown[k]++;
                    } else {
                        rest[k] -= at.pixels[x][y];
                    }
                }
            }
            for (int k = 0; k < unknown.length; k++) {
                if (unknown[k] == 1) {
                    learn(at, bins, k + least, rest[k]);
                    return true;
                }
            }
        }
        return false;
    }

    private void learn(Rebuilding at, Bins bins, int line, int v) {
        for (int x = 0; x < picture.length; x++) {
            for (int y = 0; y < picture[0].length; y++) {
                if (at.pixels[x][y] == null && along(bins, x, y) == line) {
                    at.pixels[x][y] = v;
                }
            }
        }
    }

    private static int[][] whole(Rebuilding at) {
        int[][] whole = new int[at.pixels.length][at.pixels[0].length];
        for (int x = 0; x < whole.length; x++) {
            for (int y = 0; y < whole[0].length; y++) {
                if (at.pixels[x][y] == null) {
                    return null;
                }
                whole[x][y] = at.pixels[x][y];
            }
        }
        return whole;
    }

    private boolean agreeing(List<Integer> used) {
        int[][] whole = whole(rebuilding(used));
        if (whole == null) {
            return false;
        }
        for (int s : used) {
            if (!java.util.Arrays.equals(sums(shelves[s], whole), shelves[s].numbers)) {
                return false;
            }
        }
        return true;
    }

    private List<Integer> withDirection(int mask) {
        List<Integer> with = new ArrayList<>();
        for (int s = 0; s < 8; s++) {
            if ((mask & 1 << s) != 0 && shelves[s] != null) {
                with.add(s);
            }
        }
        return with;
    }

    private List<Integer> filled() {
        List<Integer> filled = withDirection(255);
        filled.removeIf(s -> shelves[s].numbers == null);
        return filled;
    }

    private static int along(Bins bins, int x, int y) {
        return bins.p * y - bins.q * x;
    }

    private int least(Bins bins) {
        int least = Integer.MAX_VALUE;
        for (int x = 0; x < picture.length; x++) {
            for (int y = 0; y < picture[0].length; y++) {
                least = Math.min(least, along(bins, x, y));
            }
        }
        return least;
    }

    private int binCount(Bins bins) {
        int greatest = Integer.MIN_VALUE;
        for (int x = 0; x < picture.length; x++) {
            for (int y = 0; y < picture[0].length; y++) {
                greatest = Math.max(greatest, along(bins, x, y));
            }
        }
        return greatest - least(bins) + 1;
    }

    private int[] sums(Bins bins, int[][] of) {
        int[] sums = new int[binCount(bins)];
        int least = least(bins);
        for (int x = 0; x < of.length; x++) {
            for (int y = 0; y < of[0].length; y++) {
                sums[along(bins, x, y) - least] += of[x][y];
            }
        }
        return sums;
    }

    private static int[][] copy(int[][] of) {
        int[][] copy = of.clone();
        for (int x = 0; x < copy.length; x++) {
            copy[x] = copy[x].clone();
        }
        return copy;
    }

    private static int gcd(int a, int b) {
        return b == 0 ? a : gcd(b, a % b);
    }

    private void pixelThere(int x, int y) {
        index(x >= 0 && x < picture.length && y >= 0 && y < picture[0].length);
    }

    private static void shelfThere(int shelf) {
        index(shelf >= 0 && shelf <= 7);
    }

    private static void index(boolean holds) {
        if (!holds) {
            throw new IndexOutOfBoundsException();
        }
    }

    private static void argument(boolean holds) {
        if (!holds) {
            throw new IllegalArgumentException();
        }
    }

    private static void state(boolean holds) {
        if (!holds) {
            throw new IllegalStateException();
        }
    }
}
