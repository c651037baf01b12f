/** Each sentence of the promises 1 to 4 (a new object, size, pixel, look), at its boundary cases. */
public final class PictureEdgeTest extends Checks {
    public static void main(String[] args) {
        PictureEdgeTest test = new PictureEdgeTest();
        test.run(
                test::newObject,
                test::sizeMakesAllZero,
                test::sizeTakesDirections,
                test::sizeTakesKeptAndRebuilt,
                test::sizeRefuses,
                test::pixelTellsWhatItWas,
                test::pixelLeavesShelves,
                test::pixelRefuses,
                test::lookAtThree,
                test::lookRefusesNoPixel,
                test::lookRefusesNoPicture);
    }

    private void newObject() {
        sentence("1: A picture of one pixel; no directions.");
        ShadowArchive archive = new ShadowArchive();
        same("the pixel", 0, archive.pixel(0, 0, 5));
        refuses("no second column", INDEX, () -> archive.pixel(1, 0, 5));
        refuses("no second row", INDEX, () -> archive.pixel(0, 1, 5));
        for (int s = 0; s < 8; s++) {
            int shelf = s;
            refuses("no direction, shelf " + s, STATE, () -> archive.shelf(shelf, 2));
            refuses("nothing to project, shelf " + s, STATE, () -> archive.project(shelf));
            refuses("nothing in it, shelf " + s, STATE, () -> archive.bin(shelf, 0));
            refuses("nothing to make anew, shelf " + s, STATE, () -> archive.regenerate(shelf));
            same("not filled, shelf " + s, false, archive.drop(shelf));
        }
        refuses("nothing kept", STATE, () -> archive.look(1, 0, 0));
        refuses("nothing rebuilt", STATE, () -> archive.look(2, 0, 0));
        same("not enough", false, archive.enough(255));
        same("nothing to rebuild from", NONE, archive.rebuild(255));
        same("nothing of one picture", MANY, archive.audit());
        ShadowArchive other = new ShadowArchive();
        same("each object its own", 0, other.look(0, 0, 0));
    }

    private void sizeMakesAllZero() {
        sentence("2: A picture of w times h, all 0");
        ShadowArchive archive = sized(16, 7);
        for (int cell = 0; cell < 112; cell++) {
            archive.pixel(cell % 16, cell / 16, cell + 1);
        }
        archive.size(7, 16);
        for (int cell = 0; cell < 112; cell++) {
            same("w columns, h rows", 0, archive.look(0, cell % 7, cell / 7));
        }
        refuses("column 7", INDEX, () -> archive.look(0, 7, 0));
        refuses("row 16", INDEX, () -> archive.look(0, 0, 16));
        archive.pixel(6, 15, 3);
        archive.size(1, 1);
        refuses("smaller", INDEX, () -> archive.look(0, 1, 0));
        archive.size(7, 16);
        same("the pixel that was outside meanwhile", 0, archive.look(0, 6, 15));
        archive.pixel(0, 0, 3);
        archive.size(7, 16);
        same("also of the same size", 0, archive.look(0, 0, 0));
        for (int w = 1; w <= 16; w++) {
            archive.size(w, 17 - w);
            same("the last pixel of " + w + " columns", 0, archive.look(0, w - 1, 16 - w));
        }
    }

    private void sizeTakesDirections() {
        sentence("2: no directions");
        ShadowArchive archive = sixPixels();
        projectAll(archive, 0, 1, 2, 3);
        archive.size(3, 2);
        for (int s = 0; s < 8; s++) {
            int shelf = s;
            refuses("shelf " + s, STATE, () -> archive.shelf(shelf, 0));
            refuses("bin of shelf " + s, STATE, () -> archive.bin(shelf, 0));
            same("shelf " + s + " is not filled", false, archive.drop(shelf));
        }
        same("they count no more", false, archive.enough(255));
        archive.direction(7, 0, 1);
        same("their directions are free", 0, archive.shelf(7, 0));
        same("and empty", 0, archive.shelf(7, 3));
        archive.direction(1, 1, 0);
        same("also that of the same shelf", 0, archive.shelf(1, 3));
        refuses("and empty", STATE, () -> archive.bin(1, 0));
    }

    private void sizeTakesKeptAndRebuilt() {
        sentence("2: nothing kept or rebuilt");
        ShadowArchive archive = sixPixels();
        projectAll(archive, 0, 1, 2);
        archive.keep();
        archive.rebuild(7);
        archive.size(3, 2);
        refuses("kept", STATE, () -> archive.look(1, 0, 0));
        refuses("to add", STATE, () -> archive.add(true));
        refuses("to take away", STATE, () -> archive.add(false));
        refuses("rebuilt", STATE, () -> archive.look(2, 0, 0));
        archive.direction(0, 0, 1);
        archive.project(0);
        archive.keep();
        same("kept anew, with what there is now", 1, archive.add(true));
        same("all 0", 0, archive.look(1, 2, 1));
        archive.direction(1, 1, 0);
        archive.project(1);
        same("nothing of the kept one before", 1, archive.add(true));
    }

    private void sizeRefuses() {
        sentence("2: IllegalArgumentException, when w or h is not 1 .. 16.");
        int[] wrong = {0, 17, -1, -16, 18, 32, 256, 257, LEAST, GREATEST};
        for (int side : wrong) {
            for (int other : new int[] {1, 16, side}) {
                ShadowArchive archive = new ShadowArchive();
                refuses("size(" + side + ", " + other + ")", ARGUMENT, () -> archive.size(side, other));
                refuses("size(" + other + ", " + side + ")", ARGUMENT, () -> archive.size(other, side));
            }
        }
        for (int side = 1; side <= 16; side++) {
            same("size(" + side + ", 1)", 0, sized(side, 1).look(0, side - 1, 0));
            same("size(1, " + side + ")", 0, sized(1, side).look(0, 0, side - 1));
        }
    }

    private void pixelTellsWhatItWas() {
        sentence("3: A pixel becomes v: what it was.");
        ShadowArchive archive = sized(16, 16);
        same("0 at first", 0, archive.pixel(15, 15, LEAST));
        same("the least", LEAST, archive.pixel(15, 15, GREATEST));
        same("the greatest", GREATEST, archive.pixel(15, 15, 0));
        same("0 again", 0, archive.pixel(15, 15, 0));
        archive.pixel(15, 0, 8);
        same("not that of the next row", 0, archive.look(0, 0, 1));
        same("not that of the row", 0, archive.look(0, 14, 0));
        same("its own", 8, archive.look(0, 15, 0));
        archive.keep();
        archive.pixel(15, 0, 9);
        same("not the kept one", 8, archive.look(1, 15, 0));
    }

    private void pixelLeavesShelves() {
        sentence("3: (Shelves stay as they are.)");
        ShadowArchive archive = sixPixels();
        projectAll(archive, 0, 1, 2);
        archive.rebuild(7);
        archive.pixel(0, 0, 100);
        bins("filled ones", archive, 0, 9, 7, 5);
        bins("and others", archive, 1, 6, 15);
        same("an empty one", 0, archive.shelf(3, 3));
        same("the rebuilt one too", 1, archive.look(2, 0, 0));
        same("rebuilding does not see it", MANY, archive.rebuild(7));
        same("nor the picture the rebuilding", 100, archive.look(0, 0, 0));
    }

    private void pixelRefuses() {
        sentence("3: IndexOutOfBoundsException, when there is none such.");
        int[][] wrong = {{3, 0}, {0, 2}, {3, 2}, {-1, 0}, {0, -1}, {-1, -1}, {2, 2}, {3, 1}, {16, 0}, {0, 16},
            {-1, 1}, {19, 0}, {LEAST, 0}, {0, LEAST}, {GREATEST, 0}, {0, GREATEST}};
        for (int[] at : wrong) {
            ShadowArchive archive = sixPixels();
            refuses("(" + at[0] + ", " + at[1] + ")", INDEX, () -> archive.pixel(at[0], at[1], 9));
            pixels("changes nothing", archive, 0, new int[][] {{1, 2, 3}, {4, 5, 6}});
        }
    }

    private void lookAtThree() {
        sentence("4: A pixel of the picture (what 0), of the one that is kept (1),"
                + " of the latest one that was rebuilt (2).");
        ShadowArchive archive = sixPixels();
        archive.keep();
        projectAll(archive, 0, 1, 2);
        archive.put(0, 0, 10);
        archive.put(2, 0, 4);
        archive.put(1, 0, 7);
        archive.rebuild(7);
        archive.pixel(2, 0, 30);
        archive.pixel(0, 1, 40);
        pixels("the picture", archive, 0, new int[][] {{1, 2, 30}, {40, 5, 6}});
        pixels("the kept one", archive, 1, new int[][] {{1, 2, 3}, {4, 5, 6}});
        pixels("the rebuilt one", archive, 2, new int[][] {{1, 2, 4}, {4, 5, 6}});
        projectAll(archive, 0, 1, 2);
        archive.rebuild(7);
        pixels("the latest", archive, 2, new int[][] {{1, 2, 30}, {40, 5, 6}});
        archive.rebuild(0);
        pixels("the latest that was rebuilt", archive, 2, new int[][] {{1, 2, 30}, {40, 5, 6}});
        archive.keep();
        archive.add(true);
        archive.direction(0, 5, 1);
        archive.drop(1);
        pixels("it stays", archive, 2, new int[][] {{1, 2, 30}, {40, 5, 6}});
    }

    private void lookRefusesNoPixel() {
        sentence("4: IndexOutOfBoundsException, when there is no such pixel, or what");
        ShadowArchive archive = sixPixels();
        projectAll(archive, 0, 1, 2);
        archive.keep();
        archive.rebuild(7);
        int[][] wrong = {{3, 0}, {0, 2}, {-1, 0}, {0, -1}, {16, 0}, {0, 16}, {LEAST, 0}, {0, GREATEST}};
        for (int what = 0; what < 3; what++) {
            for (int[] at : wrong) {
                int which = what;
                refuses(what + " at (" + at[0] + ", " + at[1] + ")", INDEX, () -> archive.look(which, at[0], at[1]));
            }
        }
        for (int what : new int[] {-1, 3, 4, 256, LEAST, GREATEST}) {
            refuses("what " + what, INDEX, () -> archive.look(what, 0, 0));
        }
    }

    private void lookRefusesNoPicture() {
        sentence("4: IllegalStateException, when there is no such picture");
        ShadowArchive archive = sixPixels();
        refuses("not kept", STATE, () -> archive.look(1, 2, 1));
        refuses("not rebuilt", STATE, () -> archive.look(2, 2, 1));
        refuses("no pixel comes first, kept", INDEX, () -> archive.look(1, 3, 0));
        refuses("no pixel comes first, rebuilt", INDEX, () -> archive.look(2, 0, 2));
        same("the picture is there always", 6, archive.look(0, 2, 1));
        archive.keep();
        refuses("keep() rebuilds nothing", STATE, () -> archive.look(2, 0, 0));
        archive.project(0);
        archive.rebuild(1);
        refuses("nor a rebuild() that does not come to all", STATE, () -> archive.look(2, 0, 0));
        projectAll(archive, 1, 2);
        archive.regenerate(3);
        archive.audit();
        refuses("nor regenerate() and audit()", STATE, () -> archive.look(2, 0, 0));
        archive.put(1, 0, 50);
        same("but one that does not agree is rebuilt", 1, archive.rebuild(11));
        same("it is there: 50 less 2 and 3", 45, archive.look(2, 0, 0));
    }
}
