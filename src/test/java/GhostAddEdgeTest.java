/** Each sentence of the promises 16 to 18 (ghost, keep, add), at its boundary cases. */
public final class GhostAddEdgeTest extends Checks {
    public static void main(String[] args) {
        GhostAddEdgeTest test = new GhostAddEdgeTest();
        test.run(
                test::ghostOfSomeShelves,
                test::ghostLooksAtDirectionsAlone,
                test::ghostRefusesMask,
                test::ghostRefusesPixel,
                test::ghostRefusesEnough,
                test::keepInPlaceOfWhatWas,
                test::keepTakesShelves,
                test::addPixelByPixel,
                test::addBinByBin,
                test::addNeedsTheSameDirection,
                test::addNeedsWhatWasFilled,
                test::addTellsHowManyStay,
                test::addRefuses);
    }

    private void ghostOfSomeShelves() {
        sentence("16: A pixel of THE GHOST of some shelves.");
        ShadowArchive archive = sized(4, 4, to(1, 1), to(-1, 1), to(1, 0));
        archive.direction(7, 0, 1);
        ghostIs("of none", archive, 0, new int[][] {{1, 0, 0, 0}, {0, 0, 0, 0}, {0, 0, 0, 0}, {0, 0, 0, 0}});
        ghostIs("of shelves without a direction", archive, 0x78, new int[][] {{1, 0, 0, 0}, {0, 0, 0, 0}});
        ghostIs("of shelf 7", archive, 128, new int[][] {{1, 0}, {-1, 0}, {0, 0}});
        ghostIs("p together w - 1", archive, 7,
                new int[][] {{0, 1, -1, 0}, {-1, 1, -1, 1}, {0, 1, -1, 0}, {0, 0, 0, 0}});
        ghostIs("q together h - 1", archive, 131,
                new int[][] {{0, 1, 0, 0}, {-1, -1, -1, 0}, {1, 1, 1, 0}, {0, -1, 0, 0}});
        ghostIs("both", archive, 135, new int[][] {{0, 1, -1, 0}, {-1, 0, 0, 1}, {1, 0, 0, -1}, {0, -1, 1, 0}});
        ghostIs("of none again", archive, 0, new int[][] {{1, 0, 0, 0}, {0, 0, 0, 0}, {0, 0, 0, 0}, {0, 0, 0, 0}});
        same("one pixel", 1, new ShadowArchive().ghost(0, 0, 0));
        ShadowArchive six = sized(8, 8, to(2, 1), to(-2, 1), to(1, 2), to(-1, 2), to(0, 1), to(1, 0));
        ghostIs("of six that just fit", six, 63, new int[][] {
            {0, 0, 0, 1, -1, 0, 0, 0}, {0, -1, 1, -1, 1, -1, 1, 0}, {0, 1, -2, 2, -2, 2, -1, 0},
            {1, -1, 2, -3, 3, -2, 1, -1}, {-1, 1, -2, 3, -3, 2, -1, 1}, {0, -1, 2, -2, 2, -2, 1, 0},
            {0, 1, -1, 1, -1, 1, -1, 0}, {0, 0, 0, -1, 1, 0, 0, 0}});
    }

    private void ghostLooksAtDirectionsAlone() {
        sentence("16: THE GHOST of some shelves (empty or filled, whatever the picture is)");
        ShadowArchive archive = sixPixels();
        int[][] due = {{1, 0, 0}, {0, -1, 0}};
        ghostIs("empty", archive, 4, due);
        archive.project(2);
        archive.put(2, 0, 50);
        ghostIs("filled", archive, 4, due);
        pixels("the picture stays", archive, 0, new int[][] {{1, 2, 3}, {4, 5, 6}});
        bins("the shelf stays", archive, 2, 50, 8, 6, 4);
        archive.direction(2, 2, 1);
        ghostIs("the new direction", archive, 4, new int[][] {{1, 0, 0}, {0, 0, -1}});
        archive.size(2, 3);
        archive.direction(2, 1, 2);
        ghostIs("the new size", archive, 4, new int[][] {{1, 0}, {0, 0}, {0, -1}});
    }

    private void ghostRefusesMask() {
        sentence("16: IllegalArgumentException, when mask is not 0 .. 255");
        ShadowArchive archive = sixPixels();
        for (int mask : new int[] {-1, 256, 260, 511, -256, LEAST, GREATEST}) {
            refuses("ghost(" + mask + ")", ARGUMENT, () -> archive.ghost(mask, 0, 0));
            refuses("ghost(" + mask + "), before no pixel", ARGUMENT, () -> archive.ghost(mask, 3, 0));
        }
    }

    private void ghostRefusesPixel() {
        sentence("16: IndexOutOfBoundsException, when there is no such pixel");
        ShadowArchive archive = sixPixels();
        int[][] wrong = {{3, 0}, {0, 2}, {-1, 0}, {0, -1}, {15, 0}, {0, 15}, {LEAST, 0}, {0, GREATEST}};
        for (int[] at : wrong) {
            String where = "(" + at[0] + ", " + at[1] + ")";
            refuses(where, INDEX, () -> archive.ghost(4, at[0], at[1]));
            refuses(where + " before enough", INDEX, () -> archive.ghost(7, at[0], at[1]));
        }
        same("the last pixel is there", 0, archive.ghost(4, 2, 1));
    }

    private void ghostRefusesEnough() {
        sentence("16: IllegalStateException, when they are enough");
        ShadowArchive archive = sized(4, 3, to(3, 1), to(1, 0), to(0, 1), to(-1, 1));
        same("p 3 of 4", 1, archive.ghost(1, 0, 0));
        refuses("p 4 of 4", STATE, () -> archive.ghost(3, 0, 0));
        refuses("p 4 of 4, one below 0", STATE, () -> archive.ghost(9, 0, 0));
        same("q 2 of 3", 1, archive.ghost(5, 0, 0));
        refuses("q 3 of 3", STATE, () -> archive.ghost(13, 0, 0));
        refuses("all", STATE, () -> archive.ghost(255, 3, 2));
        refuses("one pixel", STATE, () -> sized(1, 1, to(1, 0)).ghost(1, 0, 0));
        refuses("one pixel, down", STATE, () -> sized(1, 1, to(0, 1)).ghost(1, 0, 0));
        refuses("16 of 16", STATE, () -> sized(16, 16, to(-16, 1)).ghost(1, 0, 0));
        same("15 of 16", 1, sized(16, 16, to(-15, 1)).ghost(1, 15, 0));
    }

    private void keepInPlaceOfWhatWas() {
        sentence("17: The picture is KEPT (in place of what was)");
        ShadowArchive archive = sixPixels();
        archive.keep();
        archive.pixel(0, 0, 10);
        archive.pixel(2, 1, 60);
        pixels("as it was then", archive, 1, new int[][] {{1, 2, 3}, {4, 5, 6}});
        pixels("the picture goes on", archive, 0, new int[][] {{10, 2, 3}, {4, 5, 60}});
        archive.keep();
        pixels("in its place", archive, 1, new int[][] {{10, 2, 3}, {4, 5, 60}});
        archive.add(true);
        pixels("it stays, added", archive, 1, new int[][] {{10, 2, 3}, {4, 5, 60}});
        archive.keep();
        archive.add(false);
        pixels("what was added is kept", archive, 1, new int[][] {{20, 4, 6}, {8, 10, 120}});
        pixels("and taken away from itself", archive, 0, new int[][] {{0, 0, 0}, {0, 0, 0}});
        ShadowArchive widest = sized(16, 16);
        widest.pixel(15, 15, 9);
        widest.pixel(0, 15, 8);
        widest.keep();
        same("the last pixel of the widest", 9, widest.look(1, 15, 15));
        same("the first of its last row", 8, widest.look(1, 0, 15));
    }

    private void keepTakesShelves() {
        sentence("17: with all that its shelves are now");
        ShadowArchive archive = sixPixels();
        projectAll(archive, 0, 1, 2);
        archive.put(0, 0, 90);
        archive.keep();
        archive.put(0, 0, 0);
        archive.put(1, 1, 1);
        same("three were filled", 3, archive.add(true));
        bins("their bins then", archive, 0, 90, 14, 10);
        bins("not those now", archive, 1, 12, 16);
        archive.drop(1);
        archive.keep();
        archive.project(1);
        same("one was empty, in place of one that was filled", 2, archive.add(true));
        same("it is empty now", 0, archive.shelf(1, 3));
        archive.direction(0, 5, 1);
        archive.project(0);
        archive.keep();
        same("the direction is the new one's", 2, archive.add(false));
        bins("with all bins of it", archive, 0, 0, 0, 0, 0, 0, 0, 0, 0);
        ShadowArchive highest = sized(16, 16);
        highest.direction(7, 16, 15);
        highest.pixel(15, 0, 3);
        highest.pixel(0, 15, 4);
        highest.project(7);
        highest.keep();
        same("shelf 7", 1, highest.add(true));
        same("its first bin", 6, highest.bin(7, 0));
        same("its last bin", 8, highest.bin(7, 465));
    }

    private void addPixelByPixel() {
        sentence("18: To the picture the kept one is added (plus), or it is taken away, pixel by pixel");
        ShadowArchive archive = sixPixels();
        archive.keep();
        archive.pixel(0, 0, LEAST);
        archive.pixel(1, 0, GREATEST);
        archive.add(true);
        pixels("added", archive, 0, new int[][] {{LEAST + 1, LEAST + 1, 6}, {8, 10, 12}});
        archive.add(false);
        pixels("taken away", archive, 0, new int[][] {{LEAST, GREATEST, 3}, {4, 5, 6}});
        archive.add(false);
        pixels("once more", archive, 0, new int[][] {{GREATEST, GREATEST - 2, 0}, {0, 0, 0}});
        ShadowArchive least = new ShadowArchive();
        least.pixel(0, 0, LEAST);
        least.keep();
        least.pixel(0, 0, 5);
        least.add(false);
        same("5 less the least", LEAST + 5, least.look(0, 0, 0));
        ShadowArchive widest = sized(16, 16);
        widest.pixel(15, 15, 3);
        widest.keep();
        widest.add(true);
        same("the last pixel of the widest", 6, widest.look(0, 15, 15));
    }

    private void addBinByBin() {
        sentence("18: and so to each filled shelf the kept one's, bin by bin,"
                + " if that had the same direction and was filled");
        ShadowArchive archive = sixPixels();
        projectAll(archive, 0, 1, 2, 3);
        archive.rebuild(7);
        archive.keep();
        archive.direction(2, -1, -1);
        archive.pixel(0, 0, 100);
        archive.project(2);
        same("also one that got the same direction anew", 4, archive.add(true));
        bins("twice", archive, 0, 18, 14, 10);
        bins("twice, rows", archive, 1, 12, 30);
        bins("as it is now, and as it was", archive, 2, 6, 16, 6 + 105, 8);
        archive.add(false);
        archive.add(false);
        bins("taken away twice", archive, 0, 0, 0, 0);
        bins("taken away twice from what it was then", archive, 2, 0, 0, 99, 0);
        same("the rebuilt one stays", 6, archive.look(2, 2, 1));
        archive.put(0, 0, GREATEST);
        archive.add(true);
        same("wraps", LEAST + 8, archive.bin(0, 0));
    }

    private void addNeedsTheSameDirection() {
        sentence("18: if that had the same direction .. otherwise it becomes empty");
        ShadowArchive archive = sixPixels();
        projectAll(archive, 0, 1, 2);
        archive.keep();
        archive.direction(0, 2, 1);
        archive.project(0);
        same("another direction now", 2, archive.add(true));
        same("is empty", 0, archive.shelf(0, 3));
        same("and has that direction still", 2, archive.shelf(0, 0));
        archive.direction(0, 2, 1);
        archive.direction(5, 0, 1);
        archive.project(5);
        same("the direction of another kept shelf", 2, archive.add(true));
        same("is empty too", 0, archive.shelf(5, 3));
        archive.direction(5, 3, 1);
        archive.direction(1, 1, 2);
        archive.direction(1, 1, 0);
        archive.project(1);
        same("the same again", 2, archive.add(true));
        ShadowArchive alike = sixPixels();
        alike.direction(0, 2, 3);
        alike.project(0);
        alike.keep();
        alike.direction(0, -2, 3);
        alike.project(0);
        same("q alone is the same", 0, alike.add(true));
        alike.direction(0, 2, 1);
        alike.project(0);
        same("p alone is the same", 0, alike.add(false));
    }

    private void addNeedsWhatWasFilled() {
        sentence("18: and was filled; otherwise it becomes empty");
        ShadowArchive archive = sixPixels();
        archive.project(0);
        archive.keep();
        projectAll(archive, 1, 2, 3);
        archive.direction(7, 3, 1);
        archive.project(7);
        same("only shelf 0 was", 1, archive.add(true));
        for (int s : new int[] {1, 2, 3, 7}) {
            int shelf = s;
            same("shelf " + s + " is empty", 0, archive.shelf(s, 3));
            refuses("no bin of shelf " + s, STATE, () -> archive.bin(shelf, 0));
        }
        archive.drop(0);
        same("one that is empty now stays empty", 0, archive.add(true));
        same("shelf 0 too", 0, archive.shelf(0, 3));
    }

    private void addTellsHowManyStay() {
        sentence("18: how many stay filled");
        int[][] eight = {{1, 0}, {0, 1}, {1, 1}, {-1, 1}, {2, 1}, {1, 2}, {-2, 1}, {-1, 2}};
        ShadowArchive archive = sized(2, 2, eight);
        projectAll(archive, 0, 1, 2, 3, 4, 5, 6, 7);
        archive.keep();
        for (int s = 7; s >= 0; s--) {
            same(s + 1 + " of eight", s + 1, archive.add(true));
            archive.drop(s);
        }
        same("none", 0, archive.add(false));
        ShadowArchive none = new ShadowArchive();
        none.keep();
        same("none with a direction", 0, none.add(true));
    }

    private void addRefuses() {
        sentence("18: IllegalStateException, when nothing is kept.");
        ShadowArchive archive = sixPixels();
        archive.project(0);
        refuses("plus", STATE, () -> archive.add(true));
        refuses("taken away", STATE, () -> archive.add(false));
        pixels("the picture stays", archive, 0, new int[][] {{1, 2, 3}, {4, 5, 6}});
        bins("the shelf stays", archive, 0, 9, 7, 5);
        archive.keep();
        archive.size(3, 2);
        refuses("behind size()", STATE, () -> archive.add(true));
    }
}
