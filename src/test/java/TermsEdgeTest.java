/** Each sentence of the document's "Terms", at the boundary cases that it names. */
public final class TermsEdgeTest extends Checks {
    private static final int[][] SIZES = {{1, 1}, {1, 16}, {16, 1}, {2, 16}, {16, 2}, {16, 16}, {5, 3}};

    public static void main(String[] args) {
        TermsEdgeTest test = new TermsEdgeTest();
        test.run(
                test::pictureHasColumnsAndRows,
                test::pictureIsOfInts,
                test::pictureIsZeroAtFirst,
                test::numbersWrap,
                test::keptIsThereOrNot,
                test::shelvesAreEight,
                test::directionsAreWithinSixteen,
                test::noTwoShelvesHaveTheSame,
                test::binsAreNumberedFromTheLeast,
                test::binsOfOnePixel,
                test::binsGoToTheGreatest,
                test::shelvesAreFilledOrEmpty,
                test::projectedBinsAreSums,
                test::maskTellsShelves,
                test::shelvesWithoutDirectionDoNotCount,
                test::enoughIsAtLeast,
                test::rebuildingBeginsWithNothing,
                test::rebuildingGoesFromTheLowest,
                test::rebuildingEnds,
                test::stepsAreCounted,
                test::agreeingIsBinByBin,
                test::ghostIsMovedToTheLeft,
                test::ghostReachesTheLastPixel,
                test::ghostBinsAreZero,
                test::constants);
    }

    private void pictureHasColumnsAndRows() {
        sentence("The PICTURE has w columns (x: 0 .. w - 1) and h rows (y: 0 .. h - 1), w and h 1 .. 16");
        for (int[] size : SIZES) {
            int w = size[0];
            int h = size[1];
            ShadowArchive archive = sized(w, h);
            same("the first pixel", 0, archive.pixel(0, 0, 1));
            same("the last pixel", w * h == 1 ? 1 : 0, archive.pixel(w - 1, h - 1, 2));
            int[][] outside = {{-1, 0}, {0, -1}, {w, 0}, {0, h}, {w, h - 1}, {w - 1, h}, {-1, h - 1}, {w - 1, -1}};
            for (int[] at : outside) {
                String where = w + " times " + h + ": (" + at[0] + ", " + at[1] + ")";
                refuses("pixel of " + where, INDEX, () -> archive.pixel(at[0], at[1], 9));
                refuses("look at " + where, INDEX, () -> archive.look(0, at[0], at[1]));
                refuses("ghost of " + where, INDEX, () -> archive.ghost(0, at[0], at[1]));
            }
        }
        eachPixelIsItsOwn(16, 15);
        eachPixelIsItsOwn(15, 16);
    }

    private void eachPixelIsItsOwn(int w, int h) {
        ShadowArchive archive = sized(w, h);
        for (int cell = 0; cell < w * h; cell++) {
            archive.pixel(cell % w, cell / w, cell);
        }
        for (int cell = 0; cell < w * h; cell++) {
            same("each its own", cell, archive.look(0, cell % w, cell / w));
        }
    }

    private void pictureIsOfInts() {
        sentence("The PICTURE .. of ints");
        ShadowArchive archive = sized(16, 16);
        archive.pixel(15, 15, LEAST);
        archive.pixel(0, 15, GREATEST);
        archive.pixel(15, 0, -1);
        same("the least", LEAST, archive.look(0, 15, 15));
        same("the greatest", GREATEST, archive.look(0, 0, 15));
        same("below 0", -1, archive.look(0, 15, 0));
    }

    private void pictureIsZeroAtFirst() {
        sentence("The PICTURE .. 0 at first");
        same("a new one", 0, new ShadowArchive().look(0, 0, 0));
        ShadowArchive archive = sized(16, 16);
        for (int cell = 0; cell < 256; cell++) {
            same("the widest", 0, archive.look(0, cell % 16, cell / 16));
        }
    }

    private void numbersWrap() {
        sentence("Numbers wrap as ints do.");
        ShadowArchive up = sized(2, 1, to(1, 0), to(0, 1));
        up.pixel(0, 0, GREATEST);
        up.pixel(1, 0, 1);
        projectAll(up, 0, 1);
        bins("a sum above the greatest", up, 0, LEAST);
        same("rebuilds and agrees", MANY, up.rebuild(3));
        same("the least less 1", GREATEST, up.look(2, 0, 0));
        up.drop(0);
        same("regenerates", true, up.regenerate(0));
        bins("the sum again", up, 0, LEAST);
        ShadowArchive down = sized(2, 1, to(1, 0), to(0, 1));
        down.pixel(0, 0, LEAST);
        down.pixel(1, 0, -1);
        projectAll(down, 0, 1);
        bins("a sum below the least", down, 0, GREATEST);
        same("of one picture", NONE, down.audit());
        down.keep();
        down.add(true);
        pixels("the least twice", down, 0, new int[][] {{0, -2}});
        bins("the greatest twice", down, 0, -2);
        bins("the least twice, in a bin", down, 1, -2, 0);
        down.add(false);
        pixels("less the least", down, 0, new int[][] {{LEAST, -1}});
        bins("less the greatest", down, 0, GREATEST);
        bins("less the least, in a bin", down, 1, -1, LEAST);
    }

    private void keptIsThereOrNot() {
        sentence("A second one, KEPT, is there or not (at first not).");
        ShadowArchive archive = new ShadowArchive();
        refuses("at first not", STATE, () -> archive.look(1, 0, 0));
        refuses("nothing to add", STATE, () -> archive.add(true));
        archive.keep();
        same("is there", 0, archive.look(1, 0, 0));
        archive.size(1, 1);
        refuses("no more", STATE, () -> archive.look(1, 0, 0));
        archive.keep();
        same("once more", 0, archive.add(false));
    }

    private void shelvesAreEight() {
        sentence("SHELVES are 0 .. 7; each may have a DIRECTION (p, q)");
        for (int s = 0; s < 8; s++) {
            ShadowArchive archive = sized(2, 2);
            archive.direction(s, 1, 1);
            same("has a direction", 3, archive.shelf(s, 2));
            archive.project(s);
            same("has bins", 0, archive.put(s, 2, s));
            same("its bin", s, archive.bin(s, 2));
            same("is filled", true, archive.drop(s));
            same("is not made anew of nothing", false, archive.regenerate(s));
            int other = 7 - s;
            refuses("another has none", STATE, () -> archive.shelf(other, 0));
        }
        for (int s : new int[] {-1, 8, 9, 31, 32, 256, LEAST, GREATEST}) {
            ShadowArchive archive = sixPixels();
            refuses("direction of " + s, INDEX, () -> archive.direction(s, 1, 2));
            refuses("shelf " + s, INDEX, () -> archive.shelf(s, 0));
            refuses("project " + s, INDEX, () -> archive.project(s));
            refuses("drop " + s, INDEX, () -> archive.drop(s));
            refuses("bin of " + s, INDEX, () -> archive.bin(s, 0));
            refuses("put to " + s, INDEX, () -> archive.put(s, 0, 1));
            refuses("regenerate " + s, INDEX, () -> archive.regenerate(s));
        }
    }

    private void directionsAreWithinSixteen() {
        sentence("a DIRECTION (p, q): whole numbers from -16 to 16 without a common factor above 1, not both 0,"
                + " told so that q is above 0, or q is 0 and p 1");
        for (int p = -19; p <= 19; p++) {
            for (int q = -19; q <= 19; q++) {
                aimAndTell(p, q);
            }
        }
        int[][] far = {{LEAST, 1}, {1, LEAST}, {GREATEST, 1}, {1, GREATEST}, {LEAST, LEAST}, {LEAST, 0}, {0, LEAST},
            {LEAST + 1, 1}, {65537, 1}, {1, 65537}, {257, 1}, {-255, 1}};
        for (int[] d : far) {
            ShadowArchive archive = new ShadowArchive();
            refuses("(" + d[0] + ", " + d[1] + ")", ARGUMENT, () -> archive.direction(0, d[0], d[1]));
        }
    }

    private void aimAndTell(int p, int q) {
        String what = "(" + p + ", " + q + ")";
        ShadowArchive archive = new ShadowArchive();
        if (Math.abs(p) > 16 || Math.abs(q) > 16 || !withoutCommonFactor(p, q)) {
            refuses(what, ARGUMENT, () -> archive.direction(3, p, q));
            refuses(what + " is none", STATE, () -> archive.shelf(3, 0));
            return;
        }
        archive.direction(3, p, q);
        int sign = q > 0 || q == 0 && p == 1 ? 1 : -1;
        same(what + ": p", sign * p, archive.shelf(3, 0));
        same(what + ": q", sign * q, archive.shelf(3, 1));
    }

    private static boolean withoutCommonFactor(int p, int q) {
        int a = Math.abs(p);
        int b = Math.abs(q);
        while (b != 0) {
            int rest = a % b;
            a = b;
            b = rest;
        }
        return a == 1;
    }

    private void noTwoShelvesHaveTheSame() {
        sentence("no two shelves have the same");
        int[][] eight = {{1, 0}, {0, 1}, {1, 1}, {-1, 1}, {2, 1}, {1, 2}, {-2, 1}, {-1, 2}};
        ShadowArchive archive = sized(4, 4, eight);
        for (int s = 0; s < 8; s++) {
            int shelf = s;
            int[] next = eight[(s + 1) % 8];
            int[] former = eight[(s + 7) % 8];
            refuses("the next one's", ARGUMENT, () -> archive.direction(shelf, next[0], next[1]));
            refuses("the former one's, turned", ARGUMENT, () -> archive.direction(shelf, -former[0], -former[1]));
            same("p stays", eight[s][0], archive.shelf(s, 0));
            same("q stays", eight[s][1], archive.shelf(s, 1));
        }
        archive.direction(0, -2, -3);
        archive.direction(7, -1, 0);
        same("one that was given up is free", 1, archive.shelf(7, 0));
        archive.direction(0, 2, -3);
        same("(-2, 3) is not (2, 3)", -2, archive.shelf(0, 0));
    }

    private void binsAreNumberedFromTheLeast() {
        sentence("bin k is for those pixels at which p * y - q * x is k more than the least that it is at any pixel");
        for (int p = -16; p <= 16; p++) {
            for (int q = 0; q <= 16; q++) {
                if (withoutCommonFactor(p, q) && (q > 0 || p == 1)) {
                    cornersFallWhereTheyShould(p, q, 16, 16);
                    cornersFallWhereTheyShould(p, q, 3, 7);
                    cornersFallWhereTheyShould(p, q, 1, 16);
                    cornersFallWhereTheyShould(p, q, 16, 1);
                }
            }
        }
    }

    /** The numbers of the pixels are powers of two, so that no two sums of some of them are the same. */
    private void cornersFallWhereTheyShould(int p, int q, int w, int h) {
        int[][] at = {{0, 0}, {w - 1, 0}, {0, h - 1}, {w - 1, h - 1}, {w / 2, h / 3}, {w / 3, h / 2}, {w - 1, h / 2}};
        int[] due = new int[16 * 15 * 2 + 1];
        ShadowArchive archive = sized(w, h, to(p, q));
        int least = LEAST;
        int greatest = LEAST;
        for (int cell = 0; cell < w * h; cell++) {
            int along = p * (cell / w) - q * (cell % w);
            least = least == LEAST ? along : Math.min(least, along);
            greatest = Math.max(greatest, along);
        }
        for (int i = 0; i < at.length; i++) {
            int before = archive.look(0, at[i][0], at[i][1]);
            archive.pixel(at[i][0], at[i][1], before + (1 << i));
            due[p * at[i][1] - q * at[i][0] - least] += 1 << i;
        }
        archive.project(0);
        bins("(" + p + ", " + q + ") over " + w + " times " + h, archive, 0,
                java.util.Arrays.copyOf(due, greatest - least + 1));
    }

    private void binsOfOnePixel() {
        sentence("The BINS of a shelf with a direction are numbered from 0");
        int[][] directions = {{1, 0}, {0, 1}, {16, 15}, {-16, 15}, {-1, 16}};
        for (int[] d : directions) {
            ShadowArchive archive = sized(1, 1, d);
            archive.pixel(0, 0, 7);
            archive.project(0);
            bins("one pixel, one bin", archive, 0, 7);
            refuses("no bin 1", INDEX, () -> archive.bin(0, 1));
            refuses("no bin -1", INDEX, () -> archive.bin(0, -1));
        }
    }

    private void binsGoToTheGreatest() {
        sentence("there are as many as to the one for the greatest");
        int[][] due = {{1, 0, 16}, {0, 1, 16}, {1, 1, 31}, {-1, 1, 31}, {16, 15, 466}, {-16, 15, 466}, {15, 16, 466},
            {-15, 16, 466}, {16, 1, 256}, {1, 16, 256}};
        for (int[] d : due) {
            ShadowArchive archive = sized(16, 16, to(d[0], d[1]));
            same("(" + d[0] + ", " + d[1] + ")", d[2], archive.shelf(0, 2));
            archive.project(0);
            same("the last is there", 0, archive.bin(0, d[2] - 1));
            refuses("one more is not", INDEX, () -> archive.bin(0, d[2]));
        }
        same("one row", 16, sized(16, 1, to(16, 1)).shelf(0, 2));
        same("one column", 241, sized(1, 16, to(16, 1)).shelf(0, 2));
        same("one row along it", 1, sized(16, 1, to(1, 0)).shelf(0, 2));
        same("one column along it", 1, sized(1, 16, to(0, 1)).shelf(0, 2));
    }

    private void shelvesAreFilledOrEmpty() {
        sentence("A shelf is FILLED when there is a number in each of its bins, otherwise EMPTY.");
        ShadowArchive archive = sized(3, 2, to(5, 1), to(3, 1));
        same("empty at first", 0, archive.shelf(0, 3));
        refuses("no number", STATE, () -> archive.bin(0, 0));
        archive.project(0);
        same("filled", 1, archive.shelf(0, 3));
        bins("a number in each, of a picture that is all 0", archive, 0, 0, 0, 0, 0, 0, 0, 0, 0);
        archive.put(0, 0, 0);
        same("filled all the same", 1, archive.shelf(0, 3));
        same("no other shelf is", 0, archive.shelf(1, 3));
        archive.drop(0);
        same("empty again", 0, archive.shelf(0, 3));
        refuses("no number in the last", STATE, () -> archive.bin(0, 7));
    }

    private void projectedBinsAreSums() {
        sentence("PROJECTED: each bin is the sum of its pixels.");
        ShadowArchive archive = sixPixels();
        archive.direction(0, 5, 1);
        archive.project(0);
        archive.put(0, 3, 70);
        archive.put(0, 0, 71);
        archive.put(0, 7, 72);
        archive.project(0);
        bins("of no pixel 0, whatever was in it", archive, 0, 3, 2, 1, 0, 0, 6, 5, 4);
        archive.direction(0, 0, 1);
        archive.project(0);
        bins("of a column", archive, 0, 9, 7, 5);
        archive.direction(1, 5, 1);
        archive.project(1);
        archive.drop(1);
        archive.project(1);
        bins("behind drop()", archive, 1, 3, 2, 1, 0, 0, 6, 5, 4);
        ShadowArchive full = sized(16, 16, to(1, 0), to(0, 1), to(1, 1));
        for (int cell = 0; cell < 256; cell++) {
            full.pixel(cell % 16, cell / 16, cell);
        }
        projectAll(full, 0, 1, 2);
        same("the first row of the widest", 120, full.bin(0, 0));
        same("the last row", 3960, full.bin(0, 15));
        same("the last column", 2160, full.bin(1, 0));
        same("the first column", 1920, full.bin(1, 15));
        same("the main diagonal", 2040, full.bin(2, 15));
        same("the upper corner", 15, full.bin(2, 0));
        same("the lower corner", 240, full.bin(2, 30));
    }

    private void maskTellsShelves() {
        sentence("SOME SHELVES are told by a mask (bit k for shelf k, 0 .. 255)");
        for (int s = 0; s < 8; s++) {
            ShadowArchive archive = new ShadowArchive();
            archive.direction(s, 1, 0);
            archive.project(s);
            int without = 255 - (1 << s);
            same("enough, bit " + s, true, archive.enough(1 << s));
            same("enough, all bits", true, archive.enough(255));
            same("not enough, all but bit " + s, false, archive.enough(without));
            same("rebuilds, bit " + s, MANY, archive.rebuild(1 << s));
            same("does not, all but bit " + s, NONE, archive.rebuild(without));
            same("ghost, all but bit " + s, 1, archive.ghost(without, 0, 0));
            refuses("ghost, bit " + s, STATE, () -> archive.ghost(255, 0, 0));
        }
        for (int mask : new int[] {-1, 256, 257, 511, 512, -256, LEAST, GREATEST}) {
            ShadowArchive archive = sixPixels();
            refuses("enough(" + mask + ")", ARGUMENT, () -> archive.enough(mask));
            refuses("rebuild(" + mask + ")", ARGUMENT, () -> archive.rebuild(mask));
            refuses("ghost(" + mask + ")", ARGUMENT, () -> archive.ghost(mask, 0, 0));
        }
    }

    private void shelvesWithoutDirectionDoNotCount() {
        sentence("those of them that have a direction count");
        ShadowArchive archive = sixPixels();
        projectAll(archive, 0, 1, 2);
        archive.direction(3, -1, 1);
        same("not for enough()", false, archive.enough(0xF1));
        same("not for rebuild(), nor as empty", MANY, archive.rebuild(0xF7));
        same("not for ghost()", 1, archive.ghost(0xF0, 0, 0));
        same("none at all, enough()", false, archive.enough(0xF0));
        same("none at all, rebuild()", NONE, archive.rebuild(0xF0));
        archive.size(3, 2);
        same("those of the former size count no more", false, archive.enough(255));
        same("nor to rebuild", NONE, archive.rebuild(255));
        same("nor for a ghost", 1, archive.ghost(255, 0, 0));
    }

    private void enoughIsAtLeast() {
        sentence("They are ENOUGH, when the sizes of their p together are at least w,"
                + " or those of their q at least h.");
        for (int side = 1; side <= 16; side++) {
            same("p is w", true, sized(side, 16, to(side, 1)).enough(1));
            same("p is w, below 0", true, sized(side, 16, to(-side, 1)).enough(1));
            same("q is h", true, sized(16, side, to(1, side)).enough(1));
            if (side > 1) {
                same("p is w - 1", false, sized(side, 16, to(side - 1, 1)).enough(1));
                same("p is w - 1, below 0", false, sized(side, 16, to(1 - side, 1)).enough(1));
                same("q is h - 1", false, sized(16, side, to(1, side - 1)).enough(1));
                same("p is w - 1 and 1", true, sized(side, 16, to(side - 1, 1), to(1, 0)).enough(3));
                same("q is h - 1 and 1", true, sized(16, side, to(1, side - 1), to(0, 1)).enough(3));
            }
        }
        ShadowArchive both = sized(5, 5, to(2, 1), to(-2, 1), to(1, 2));
        same("sizes of p 4, not 0", false, both.enough(3));
        same("sizes of p 5", true, both.enough(7));
        same("q 3", false, both.enough(5));
        same("nothing", false, both.enough(0));
        same("nothing, of one pixel", false, new ShadowArchive().enough(0));
        same("whether filled or not", true, sized(1, 1, to(0, 1)).enough(1));
    }

    private void rebuildingBeginsWithNothing() {
        sentence("REBUILDING from some shelves, which are filled: at first no pixel is known");
        ShadowArchive archive = sixPixels();
        projectAll(archive, 0, 1, 2, 3);
        same("all become known", MANY, archive.rebuild(7));
        same("nothing is known of them any more", NONE, archive.rebuild(3));
        same("so there is no step", 0, archive.about(0));
        same("all once more", MANY, archive.rebuild(11));
        same("step by step", 6, archive.about(0));
        refuses("not from an empty one", STATE, () -> {
            archive.drop(1);
            archive.rebuild(11);
        });
    }

    private void rebuildingGoesFromTheLowest() {
        sentence("in the lowest shelf of which a bin has just one pixel that is not known,"
                + " and the lowest such bin of it: that pixel becomes the bin's number less its other pixels");
        ShadowArchive two = sized(1, 1, to(1, 0), to(0, 1));
        projectAll(two, 0, 1);
        two.put(0, 0, 10);
        two.put(1, 0, 20);
        same("the higher does not agree", 1, two.rebuild(3));
        same("the lowest shelf", 10, two.look(2, 0, 0));
        ShadowArchive corners = cornersOfTwoDiagonals(to(1, 1), to(-1, 1));
        same("the lower goes first", 1, corners.rebuild(3));
        pixels("and again, when it can", corners, 2, new int[][] {{10 - 1000, 1}, {100, 1000}});
        ShadowArchive turned = cornersOfTwoDiagonals(to(-1, 1), to(1, 1));
        same("also with the other diagonal", 1, turned.rebuild(3));
        pixels("the lowest bin first", turned, 2, new int[][] {{100, 1000}, {10 - 1000, 1}});
    }

    private void rebuildingEnds() {
        sentence("and so on, until no shelf has such a bin");
        ShadowArchive archive = sized(3, 3, to(1, 1), to(-1, 1));
        projectAll(archive, 0, 1);
        same("two corners of one diagonal", NONE, archive.rebuild(1));
        same("two", 2, archive.about(0));
        same("four corners of two", NONE, archive.rebuild(3));
        same("and the middle", 5, archive.about(0));
        ShadowArchive rows = sized(16, 16, to(1, 0), to(0, 1));
        projectAll(rows, 0, 1);
        same("rows and columns", NONE, rows.rebuild(3));
        same("not one", 0, rows.about(0));
    }

    private void stepsAreCounted() {
        sentence("Each pixel that becomes known is a STEP.");
        ShadowArchive archive = sized(16, 16, to(-16, 15), to(1, 0));
        projectAll(archive, 0, 1);
        same("the widest", MANY, archive.rebuild(3));
        same("each once, though both shelves have it", 256, archive.about(0));
        same("of none", NONE, archive.rebuild(0));
        same("no step", 0, archive.about(0));
        ShadowArchive one = sized(1, 1, to(1, 0));
        one.project(0);
        one.rebuild(1);
        same("one pixel", 1, one.about(0));
    }

    private void agreeingIsBinByBin() {
        sentence("If then all are known, the REBUILT picture is there; it AGREES with a shelf, if each bin is"
                + " the sum of its pixels.");
        for (int k = 0; k < 8; k++) {
            ShadowArchive archive = sized(3, 2, to(3, 1), to(5, 1));
            projectAll(archive, 0, 1);
            archive.put(1, k, 1);
            same("bin " + k + " is wrong", 1, archive.rebuild(3));
            same("it is that one", k, archive.about(1));
            same("the rebuilt one is there", 0, archive.look(2, 2, 1));
        }
        ShadowArchive alone = sized(3, 2, to(5, 1));
        alone.project(0);
        alone.put(0, 2, 4);
        same("what it was rebuilt from agrees", MANY, alone.rebuild(1));
        alone.put(0, 4, 1);
        same("a bin of no pixel is 0", 0, alone.rebuild(1));
        same("and the picture is there", 4, alone.look(2, 0, 0));
        alone.put(0, 3, 9);
        alone.rebuild(1);
        alone.direction(0, 0, 1);
        alone.direction(1, 1, 0);
        alone.direction(2, 1, 1);
        projectAll(alone, 0, 1, 2);
        same("a bin that only the direction before had does not count", MANY, alone.rebuild(7));
    }

    private void ghostIsMovedToTheLeft() {
        sentence("THE GHOST of some shelves that are not enough: 1 at the pixel (0, 0), then for each of the shelves,"
                + " in rising order: what there is, less the same moved by p to the right and q down; then all moved"
                + " so that its lowest column that is not all 0 becomes 0.");
        ShadowArchive archive = sized(6, 5, to(-1, 1), to(-2, 1), to(1, 1), to(1, 0), to(0, 1));
        ghostIs("of none", archive, 0, new int[][] {{1, 0, 0, 0, 0, 0}, {0, 0, 0, 0, 0, 0}, {0, 0, 0, 0, 0, 0},
            {0, 0, 0, 0, 0, 0}, {0, 0, 0, 0, 0, 0}});
        ghostIs("to the left", archive, 1, new int[][] {{0, 1, 0}, {-1, 0, 0}, {0, 0, 0}});
        ghostIs("twice to the left", archive, 3, new int[][] {{0, 0, 0, 1, 0}, {0, -1, -1, 0, 0}, {1, 0, 0, 0, 0}});
        ghostIs("left, then right", archive, 5, new int[][] {{0, 1, 0}, {-1, 0, -1}, {0, 1, 0}});
        ghostIs("left, then along a row", archive, 9, new int[][] {{0, 1, -1}, {-1, 1, 0}, {0, 0, 0}});
        ghostIs("left, then down", archive, 17, new int[][] {{0, 1, 0}, {-1, -1, 0}, {1, 0, 0}});
        ghostIs("right", archive, 4, new int[][] {{1, 0, 0}, {0, -1, 0}, {0, 0, 0}});
        ghostIs("down", archive, 16, new int[][] {{1, 0}, {-1, 0}, {0, 0}});
        ghostIs("of none behind others", archive, 0, new int[][] {{1, 0, 0}, {0, 0, 0}, {0, 0, 0}});
        same("of one pixel", 1, new ShadowArchive().ghost(255, 0, 0));
    }

    private void ghostReachesTheLastPixel() {
        sentence("THE GHOST of some shelves that are not enough (it just fits)");
        ShadowArchive right = sized(16, 16, to(15, 14), to(0, 1));
        same("16 times 16, the last pixel", 1, right.ghost(3, 15, 15));
        same("the one above", -1, right.ghost(3, 15, 14));
        same("the first", 1, right.ghost(3, 0, 0));
        same("below it", -1, right.ghost(3, 0, 1));
        ShadowArchive left = sized(16, 16, to(-15, 14), to(0, 1));
        same("the upper corner", 1, left.ghost(3, 15, 0));
        same("the lower corner", 1, left.ghost(3, 0, 15));
        same("nothing at (0, 0)", 0, left.ghost(3, 0, 0));
        same("nothing at (15, 15)", 0, left.ghost(3, 15, 15));
        ShadowArchive row = sized(2, 1, to(1, 0));
        same("one row, left", 1, row.ghost(1, 0, 0));
        same("one row, right", -1, row.ghost(1, 1, 0));
        ShadowArchive column = sized(1, 2, to(0, 1));
        same("one column, above", 1, column.ghost(1, 0, 0));
        same("one column, below", -1, column.ghost(1, 0, 1));
    }

    private void ghostBinsAreZero() {
        sentence("(All its bins along these directions are 0.)");
        ghostHasNoShadow(7, 7, to(1, 1), to(-1, 1), to(2, 1), to(-2, 1), to(0, 1));
        ghostHasNoShadow(9, 6, to(-3, 1), to(-4, 1), to(1, 0), to(0, 1));
        ghostHasNoShadow(8, 8, to(-3, 4), to(2, 3));
    }

    private void ghostHasNoShadow(int w, int h, int[]... directions) {
        ShadowArchive from = sized(w, h, directions);
        ShadowArchive archive = sized(w, h, directions);
        int mask = (1 << directions.length) - 1;
        int seen = 0;
        for (int cell = 0; cell < w * h; cell++) {
            int v = from.ghost(mask, cell % w, cell / w);
            archive.pixel(cell % w, cell / w, v);
            seen |= v;
        }
        same("not all 0", true, seen != 0);
        for (int s = 0; s < directions.length; s++) {
            archive.project(s);
            bins("shelf " + s, archive, s, new int[archive.shelf(s, 2)]);
        }
    }

    private void constants() {
        sentence("The constants: NONE = -1, MANY = 99");
        same("NONE", -1, ShadowArchive.NONE);
        same("MANY", 99, ShadowArchive.MANY);
    }
}
