/** Each promise of the document: ordinary inputs, the edges that it names, and wrong inputs. */
public final class PromiseTest extends Checks {
    public static void main(String[] args) {
        PromiseTest test = new PromiseTest();
        test.run(
                test::promise1NewObject,
                test::promise2Size,
                test::promise2SizeForgets,
                test::promise3Pixel,
                test::promise4Look,
                test::promise5Direction,
                test::promise5DirectionRefuses,
                test::promise6Shelf,
                test::promise7Project,
                test::promise8Drop,
                test::promise9Bin,
                test::promise10Put,
                test::promise11Enough,
                test::promise12Rebuild,
                test::promise12RebuildOrder,
                test::promise12RebuildRefuses,
                test::promise13About,
                test::promise14Regenerate,
                test::promise15Audit,
                test::promise16Ghost,
                test::promise16GhostRefuses,
                test::promise17Keep,
                test::promise18Add,
                test::promise18AddShelves);
    }

    private void promise1NewObject() {
        ShadowArchive archive = new ShadowArchive();
        same("1: the pixel", 0, archive.look(0, 0, 0));
        refuses("1: one column", INDEX, () -> archive.look(0, 1, 0));
        refuses("1: one row", INDEX, () -> archive.look(0, 0, 1));
        for (int s = 0; s < 8; s++) {
            int shelf = s;
            refuses("1: no direction", STATE, () -> archive.shelf(shelf, 0));
        }
        refuses("1: nothing kept", STATE, () -> archive.look(1, 0, 0));
        refuses("1: nothing to add", STATE, () -> archive.add(true));
        refuses("1: nothing rebuilt", STATE, () -> archive.look(2, 0, 0));
        same("1: NONE", -1, ShadowArchive.NONE);
        same("1: MANY", 99, ShadowArchive.MANY);
    }

    private void promise2Size() {
        ShadowArchive archive = new ShadowArchive();
        archive.size(16, 16);
        same("2: greatest", 0, archive.look(0, 15, 15));
        archive.size(5, 1);
        same("2: w is columns", 0, archive.look(0, 4, 0));
        refuses("2: h is rows", INDEX, () -> archive.look(0, 0, 1));
        archive.pixel(4, 0, 3);
        int[][] wrong = {{0, 1}, {1, 0}, {17, 1}, {1, 17}, {-1, 3}, {3, -1}, {LEAST, 1}, {1, GREATEST}};
        for (int[] size : wrong) {
            refuses("2: size(" + size[0] + ", " + size[1] + ")", ARGUMENT, () -> archive.size(size[0], size[1]));
        }
        same("2: a refused size changes nothing", 3, archive.look(0, 4, 0));
    }

    private void promise2SizeForgets() {
        ShadowArchive archive = sixPixels();
        projectAll(archive, 0, 1, 2);
        archive.keep();
        same("2: rebuilds", 99, archive.rebuild(7));
        refuses("2: refused", ARGUMENT, () -> archive.size(0, 0));
        same("2: a refused size keeps directions", 3, archive.shelf(0, 2));
        same("2: a refused size keeps the kept one", 6, archive.look(1, 2, 1));
        archive.size(3, 2);
        for (int cell = 0; cell < 6; cell++) {
            same("2: all 0", 0, archive.look(0, cell % 3, cell / 3));
        }
        for (int s = 0; s < 8; s++) {
            int shelf = s;
            refuses("2: no directions", STATE, () -> archive.shelf(shelf, 3));
            refuses("2: nothing in bins", STATE, () -> archive.bin(shelf, 0));
            same("2: nothing to drop", false, archive.drop(shelf));
        }
        refuses("2: nothing kept", STATE, () -> archive.look(1, 0, 0));
        refuses("2: nothing to add", STATE, () -> archive.add(false));
        refuses("2: nothing rebuilt", STATE, () -> archive.look(2, 0, 0));
        archive.direction(5, 1, 1);
        same("2: a former direction is free", 1, archive.shelf(5, 0));
        same("2: and empty", 0, archive.shelf(5, 3));
    }

    private void promise3Pixel() {
        ShadowArchive archive = sixPixels();
        archive.project(0);
        same("3: what it was", 6, archive.pixel(2, 1, LEAST));
        same("3: what it is", LEAST, archive.look(0, 2, 1));
        same("3: what it was then", LEAST, archive.pixel(2, 1, GREATEST));
        same("3: no other", 5, archive.look(0, 1, 1));
        bins("3: shelves stay", archive, 0, 9, 7, 5);
        int[][] wrong = {{3, 0}, {0, 2}, {-1, 0}, {0, -1}, {GREATEST, 0}, {0, LEAST}};
        for (int[] at : wrong) {
            refuses("3: pixel(" + at[0] + ", " + at[1] + ")", INDEX, () -> archive.pixel(at[0], at[1], 1));
        }
    }

    private void promise4Look() {
        ShadowArchive archive = sixPixels();
        same("4: x is the column", 3, archive.look(0, 2, 0));
        same("4: y is the row", 4, archive.look(0, 0, 1));
        refuses("4: kept", STATE, () -> archive.look(1, 0, 0));
        refuses("4: rebuilt", STATE, () -> archive.look(2, 0, 0));
        refuses("4: no pixel before no picture", INDEX, () -> archive.look(1, 3, 0));
        refuses("4: what 3", INDEX, () -> archive.look(3, 0, 0));
        refuses("4: what -1", INDEX, () -> archive.look(-1, 0, 0));
        refuses("4: no row", INDEX, () -> archive.look(0, 0, 2));
        refuses("4: below", INDEX, () -> archive.look(0, -1, 0));
        projectAll(archive, 0, 1, 2);
        archive.keep();
        archive.rebuild(7);
        archive.pixel(1, 1, 50);
        same("4: the picture", 50, archive.look(0, 1, 1));
        same("4: the kept one", 5, archive.look(1, 1, 1));
        archive.put(1, 1, 1015);
        archive.put(0, 1, 1007);
        same("4: rebuilds once more", 2, archive.rebuild(7));
        same("4: the latest one that was rebuilt", 1005, archive.look(2, 1, 1));
        refuses("4: no pixel of the kept one", INDEX, () -> archive.look(1, 0, -1));
        refuses("4: no pixel of the rebuilt one", INDEX, () -> archive.look(2, 3, 1));
    }

    private void direction(String what, int p, int q, int dueP, int dueQ) {
        ShadowArchive archive = new ShadowArchive();
        archive.direction(7, p, q);
        same(what + ": p", dueP, archive.shelf(7, 0));
        same(what + ": q", dueQ, archive.shelf(7, 1));
    }

    private void promise5Direction() {
        direction("5: (1, 0)", 1, 0, 1, 0);
        direction("5: (-1, 0)", -1, 0, 1, 0);
        direction("5: (0, 1)", 0, 1, 0, 1);
        direction("5: (0, -1)", 0, -1, 0, 1);
        direction("5: (3, -5)", 3, -5, -3, 5);
        direction("5: (-3, -5)", -3, -5, 3, 5);
        direction("5: (-16, 15)", -16, 15, -16, 15);
        direction("5: (15, -16)", 15, -16, -15, 16);
        ShadowArchive archive = sixPixels();
        archive.project(2);
        archive.direction(2, -1, -1);
        same("5: the one that it has", 1, archive.shelf(2, 1));
        same("5: and is empty", 0, archive.shelf(2, 3));
        archive.direction(2, 2, 1);
        archive.direction(5, 1, 1);
        same("5: a direction that was left is free", 1, archive.shelf(5, 0));
    }

    private void promise5DirectionRefuses() {
        ShadowArchive archive = sixPixels();
        archive.project(2);
        int[][] none = {{0, 0}, {0, 2}, {2, 0}, {-2, 0}, {2, 2}, {-6, 9}, {16, 14}, {17, 1}, {1, 17}, {-17, 1},
            {1, -17}, {13, -13}, {7, 14}, {LEAST, 1}, {1, LEAST}, {GREATEST, 1}};
        for (int[] d : none) {
            refuses("5: (" + d[0] + ", " + d[1] + ")", ARGUMENT, () -> archive.direction(2, d[0], d[1]));
        }
        refuses("5: another has it", ARGUMENT, () -> archive.direction(2, 0, 1));
        refuses("5: another has it, turned", ARGUMENT, () -> archive.direction(2, 2, -1));
        refuses("5: shelf 8", INDEX, () -> archive.direction(8, 1, 2));
        refuses("5: shelf -1", INDEX, () -> archive.direction(-1, 1, 2));
        refuses("5: shelf before direction", INDEX, () -> archive.direction(8, 0, 0));
        bins("5: a refused direction changes nothing", archive, 2, 3, 8, 6, 4);
    }

    private void promise6Shelf() {
        ShadowArchive archive = sixPixels();
        same("6: p", -2, archive.shelf(3, 0));
        same("6: q", 1, archive.shelf(3, 1));
        same("6: bins of (0, 1)", 3, archive.shelf(0, 2));
        same("6: bins of (1, 0)", 2, archive.shelf(1, 2));
        same("6: bins of (1, 1)", 4, archive.shelf(2, 2));
        same("6: bins of (-2, 1)", 5, archive.shelf(3, 2));
        same("6: empty", 0, archive.shelf(3, 3));
        archive.project(3);
        same("6: filled", 1, archive.shelf(3, 3));
        refuses("6: no direction", STATE, () -> archive.shelf(4, 0));
        refuses("6: what before direction", INDEX, () -> archive.shelf(4, 4));
        refuses("6: what -1", INDEX, () -> archive.shelf(0, -1));
        refuses("6: what 4", INDEX, () -> archive.shelf(0, 4));
        refuses("6: shelf 8", INDEX, () -> archive.shelf(8, 0));
        refuses("6: shelf -1", INDEX, () -> archive.shelf(-1, 0));
        archive.size(16, 16);
        archive.direction(0, 16, 15);
        archive.direction(1, 0, 1);
        same("6: the most bins", 466, archive.shelf(0, 2));
        same("6: bins of columns", 16, archive.shelf(1, 2));
    }

    private void promise7Project() {
        ShadowArchive archive = sixPixels();
        projectAll(archive, 0, 1, 2, 3);
        bins("7: (0, 1)", archive, 0, 9, 7, 5);
        bins("7: (1, 0)", archive, 1, 6, 15);
        bins("7: (1, 1)", archive, 2, 3, 8, 6, 4);
        bins("7: (-2, 1)", archive, 3, 6, 5, 7, 2, 1);
        archive.direction(4, 3, 1);
        archive.project(4);
        bins("7: a pixel in each bin, (3, 1)", archive, 4, 3, 2, 1, 6, 5, 4);
        archive.direction(4, 5, 1);
        archive.project(4);
        bins("7: bins without pixels, (5, 1)", archive, 4, 3, 2, 1, 0, 0, 6, 5, 4);
        archive.pixel(0, 0, GREATEST);
        archive.pixel(0, 1, 1);
        archive.project(0);
        bins("7: anew, and sums wrap", archive, 0, 9, 7, LEAST);
        bins("7: others stay", archive, 1, 6, 15);
        refuses("7: no direction", STATE, () -> archive.project(5));
        refuses("7: shelf 8", INDEX, () -> archive.project(8));
        refuses("7: shelf -1", INDEX, () -> archive.project(-1));
    }

    private void promise8Drop() {
        ShadowArchive archive = sixPixels();
        same("8: was empty", false, archive.drop(0));
        archive.project(0);
        archive.project(1);
        same("8: was filled", true, archive.drop(0));
        same("8: is empty", 0, archive.shelf(0, 3));
        same("8: is empty again", false, archive.drop(0));
        same("8: keeps its direction", 3, archive.shelf(0, 2));
        same("8: no other", 1, archive.shelf(1, 3));
        same("8: no direction", false, archive.drop(7));
        refuses("8: shelf 8", INDEX, () -> archive.drop(8));
        refuses("8: shelf -1", INDEX, () -> archive.drop(-1));
    }

    private void promise9Bin() {
        ShadowArchive archive = sixPixels();
        refuses("9: empty", STATE, () -> archive.bin(0, 0));
        refuses("9: empty before no bin", STATE, () -> archive.bin(0, 3));
        refuses("9: no direction", STATE, () -> archive.bin(7, -1));
        refuses("9: shelf 8", INDEX, () -> archive.bin(8, 0));
        refuses("9: shelf -1", INDEX, () -> archive.bin(-1, 0));
        archive.project(0);
        same("9: the first", 9, archive.bin(0, 0));
        same("9: the last", 5, archive.bin(0, 2));
        refuses("9: bin 3", INDEX, () -> archive.bin(0, 3));
        refuses("9: bin -1", INDEX, () -> archive.bin(0, -1));
        refuses("9: bin GREATEST", INDEX, () -> archive.bin(0, GREATEST));
        archive.drop(0);
        refuses("9: dropped", STATE, () -> archive.bin(0, 0));
    }

    private void promise10Put() {
        ShadowArchive archive = sixPixels();
        refuses("10: empty", STATE, () -> archive.put(1, 0, 1));
        refuses("10: empty before no bin", STATE, () -> archive.put(1, 2, 1));
        refuses("10: no direction", STATE, () -> archive.put(7, 0, 1));
        refuses("10: shelf 8", INDEX, () -> archive.put(8, 0, 1));
        refuses("10: shelf -1", INDEX, () -> archive.put(-1, 0, 1));
        archive.project(1);
        same("10: what it was", 15, archive.put(1, 1, LEAST));
        same("10: what it was then", LEAST, archive.put(1, 1, -3));
        bins("10: what it is", archive, 1, 6, -3);
        same("10: pixels stay", 4, archive.look(0, 0, 1));
        refuses("10: bin 2", INDEX, () -> archive.put(1, 2, 1));
        refuses("10: bin -1", INDEX, () -> archive.put(1, -1, 1));
    }

    private void promise11Enough() {
        ShadowArchive archive = new ShadowArchive();
        same("11: none", false, archive.enough(0));
        same("11: without directions", false, archive.enough(255));
        archive.size(5, 4);
        archive.direction(0, -2, 1);
        archive.direction(1, 1, 1);
        archive.direction(2, 2, 1);
        archive.direction(7, 1, 4);
        same("11: sizes of p: 4 of 5, q: 2 of 4", false, archive.enough(5));
        same("11: sizes of p: 5 of 5", true, archive.enough(7));
        same("11: q: 4 of 4", true, archive.enough(128));
        same("11: p: 3, q: 2", false, archive.enough(3));
        same("11: those without a direction do not count", false, archive.enough(0x7B));
        same("11: all", true, archive.enough(255));
        refuses("11: mask 256", ARGUMENT, () -> archive.enough(256));
        refuses("11: mask -1", ARGUMENT, () -> archive.enough(-1));
        refuses("11: mask LEAST", ARGUMENT, () -> archive.enough(LEAST));
    }

    private void promise12Rebuild() {
        ShadowArchive archive = sixPixels();
        projectAll(archive, 0, 1, 2, 3);
        same("12: agrees with all", 99, archive.rebuild(7));
        for (int cell = 0; cell < 6; cell++) {
            same("12: rebuilt", cell + 1, archive.look(2, cell % 3, cell / 3));
        }
        same("12: does not come to all", -1, archive.rebuild(3));
        same("12: the former one stays", 6, archive.look(2, 2, 1));
        same("12: no shelves", -1, archive.rebuild(0));
        same("12: shelves without a direction", -1, archive.rebuild(0xF0));
        archive.put(0, 0, 90);
        same("12: shelves 0 and 2", 2, archive.rebuild(5));
        archive.put(0, 0, 9);
        archive.put(1, 0, 7);
        same("12: the lowest that does not agree", 1, archive.rebuild(11));
        same("12: the others agree", 99, archive.rebuild(9));
        ShadowArchive wide = new ShadowArchive();
        wide.size(3, 2);
        wide.direction(0, 5, 1);
        wide.project(0);
        same("12: one shelf", 99, wide.rebuild(1));
        wide.put(0, 3, 1);
        same("12: a bin without pixels is a sum of 0", 0, wide.rebuild(1));
        same("12: and it is rebuilt all the same", 0, wide.look(2, 2, 1));
        ShadowArchive wraps = new ShadowArchive();
        wraps.size(2, 1);
        wraps.direction(0, 1, 0);
        wraps.direction(1, 0, 1);
        wraps.pixel(0, 0, GREATEST);
        wraps.pixel(1, 0, GREATEST);
        projectAll(wraps, 0, 1);
        same("12: sums wrap", 99, wraps.rebuild(3));
        same("12: and back", GREATEST, wraps.look(2, 0, 0));
    }

    /** Of two shelves that do not agree the order tells which pixel comes from which bin. */
    private void promise12RebuildOrder() {
        ShadowArchive archive = cornersOfTwoDiagonals(to(1, 1), to(-1, 1));
        // Bin 0 of shelf 0 is (1, 0), bin 2 of it (0, 1); only then shelf 1 gives (1, 1), and
        // then shelf 0 again is lower than shelf 1, so (0, 0) is what is left of its bin 1.
        same("12: shelf 1 does not agree", 1, archive.rebuild(3));
        same("12: order (1, 0)", 1, archive.look(2, 1, 0));
        same("12: order (0, 1)", 100, archive.look(2, 0, 1));
        same("12: order (1, 1)", 1000, archive.look(2, 1, 1));
        same("12: order (0, 0)", 10 - 1000, archive.look(2, 0, 0));
        same("12: order, the lowest bin", 1, archive.about(1));
        same("12: order, steps", 4, archive.about(0));
    }

    private void promise12RebuildRefuses() {
        ShadowArchive archive = sixPixels();
        projectAll(archive, 0, 1, 2);
        archive.rebuild(7);
        refuses("12: mask 256", ARGUMENT, () -> archive.rebuild(256));
        refuses("12: mask -1", ARGUMENT, () -> archive.rebuild(-1));
        refuses("12: one is empty", STATE, () -> archive.rebuild(15));
        same("12: a refused one is not the latest", 6, archive.about(0));
        same("12: nor changes the rebuilt one", 6, archive.look(2, 2, 1));
        archive.drop(0);
        refuses("12: dropped", STATE, () -> archive.rebuild(1));
        refuses("12: mask before state", ARGUMENT, () -> archive.rebuild(257));
    }

    private void promise13About() {
        ShadowArchive archive = new ShadowArchive();
        same("13: steps before", 0, archive.about(0));
        same("13: bin before", -1, archive.about(1));
        archive.size(3, 3);
        archive.direction(0, 1, 1);
        archive.direction(1, 0, 1);
        archive.direction(2, -1, 1);
        projectAll(archive, 0, 1, 2);
        same("13: one diagonal", -1, archive.rebuild(1));
        same("13: steps when it told NONE", 2, archive.about(0));
        same("13: bin when it told NONE", -1, archive.about(1));
        same("13: three", 99, archive.rebuild(7));
        same("13: steps", 9, archive.about(0));
        same("13: bin when it told MANY", -1, archive.about(1));
        archive.put(2, 4, 7);
        archive.put(2, 3, 7);
        same("13: does not agree", 2, archive.rebuild(7));
        same("13: the lowest bin", 3, archive.about(1));
        refuses("13: refused", ARGUMENT, () -> archive.rebuild(-1));
        same("13: the bin stays", 3, archive.about(1));
        archive.size(1, 1);
        same("13: steps behind size()", 9, archive.about(0));
        same("13: bin behind size()", 3, archive.about(1));
        archive.rebuild(0);
        same("13: steps of none", 0, archive.about(0));
        same("13: bin of none", -1, archive.about(1));
        refuses("13: what 2", ARGUMENT, () -> archive.about(2));
        refuses("13: what -1", ARGUMENT, () -> archive.about(-1));
    }

    private void promise14Regenerate() {
        ShadowArchive archive = sixPixels();
        same("14: from none", false, archive.regenerate(0));
        projectAll(archive, 0, 1);
        same("14: from too few", false, archive.regenerate(2));
        same("14: still empty", 0, archive.shelf(2, 3));
        archive.project(3);
        archive.pixel(0, 0, 77);
        same("14: from enough", true, archive.regenerate(2));
        bins("14: of the rebuilt one, not of the picture", archive, 2, 3, 8, 6, 4);
        refuses("14: filled", STATE, () -> archive.regenerate(2));
        refuses("14: no direction", STATE, () -> archive.regenerate(4));
        refuses("14: shelf 8", INDEX, () -> archive.regenerate(8));
        refuses("14: shelf -1", INDEX, () -> archive.regenerate(-1));
        refuses("14: nothing is rebuilt by it", STATE, () -> archive.look(2, 0, 0));
        same("14: about() stays", 0, archive.about(0));
        archive.drop(1);
        archive.put(0, 0, 1009);
        same("14: also from shelves that do not agree", true, archive.regenerate(1));
        same("14: which they do not", 2, archive.rebuild(13));
        bins("14: the sums of the rebuilt one", archive, 1,
                archive.look(2, 0, 0) + archive.look(2, 1, 0) + archive.look(2, 2, 0),
                archive.look(2, 0, 1) + archive.look(2, 1, 1) + archive.look(2, 2, 1));
    }

    private void promise15Audit() {
        ShadowArchive archive = sixPixels();
        same("15: nothing filled", 99, archive.audit());
        archive.project(0);
        same("15: one that does not rebuild", 99, archive.audit());
        projectAll(archive, 1, 2, 3);
        same("15: all of one picture", -1, archive.audit());
        archive.put(1, 0, 0);
        same("15: shelf 1 is wrong", 1, archive.audit());
        archive.put(1, 0, 6);
        archive.put(3, 2, 0);
        same("15: shelf 3 is wrong", 3, archive.audit());
        archive.put(0, 2, 0);
        same("15: two are wrong", 99, archive.audit());
        archive.project(0);
        archive.drop(1);
        archive.drop(0);
        same("15: (1, 1) and (-2, 1) do not agree, and neither alone rebuilds", 99, archive.audit());
        same("15: about() stays", 0, archive.about(0));
        refuses("15: nothing is rebuilt by it", STATE, () -> archive.look(2, 0, 0));
        ShadowArchive either = new ShadowArchive();
        either.direction(2, 1, 0);
        either.direction(6, 0, 1);
        projectAll(either, 2, 6);
        either.put(6, 0, 1);
        same("15: the lowest without which the others do", 2, either.audit());
        either.rebuild(68);
        either.put(2, 0, 1);
        same("15: of one again", -1, either.audit());
        same("15: the rebuilt one stays", 0, either.look(2, 0, 0));
        same("15: its bin stays", 0, either.about(1));
    }

    private void promise16Ghost() {
        ShadowArchive archive = new ShadowArchive();
        archive.size(5, 4);
        archive.direction(0, 1, 1);
        archive.direction(1, -1, 1);
        archive.direction(2, 1, 0);
        archive.direction(3, 0, 1);
        archive.direction(4, -2, 1);
        ghostIs("16: of none", archive, 0, new int[][] {{1, 0}, {0, 0}});
        ghostIs("16: of those without a direction", archive, 0xE0, new int[][] {{1, 0}, {0, 0}});
        ghostIs("16: (1, 1)", archive, 1, new int[][] {{1, 0, 0}, {0, -1, 0}, {0, 0, 0}});
        ghostIs("16: (-1, 1)", archive, 2, new int[][] {{0, 1, 0}, {-1, 0, 0}, {0, 0, 0}});
        ghostIs("16: (1, 0)", archive, 4, new int[][] {{1, -1, 0}, {0, 0, 0}});
        ghostIs("16: (0, 1)", archive, 8, new int[][] {{1, 0}, {-1, 0}, {0, 0}});
        ghostIs("16: (-2, 1)", archive, 16, new int[][] {{0, 0, 1, 0}, {-1, 0, 0, 0}});
        ghostIs("16: (1, 1), (-1, 1), (1, 0)", archive, 7,
                new int[][] {{0, 1, -1, 0, 0}, {-1, 1, -1, 1, 0}, {0, 1, -1, 0, 0}, {0, 0, 0, 0, 0}});
        ghostIs("16: (1, 1), (-1, 1), (0, 1)", archive, 11,
                new int[][] {{0, 1, 0, 0, 0}, {-1, -1, -1, 0, 0}, {1, 1, 1, 0, 0}, {0, -1, 0, 0, 0}});
        ghostIs("16: (-1, 1), (1, 0), (-2, 1)", archive, 22,
                new int[][] {{0, 0, 0, 1, -1}, {0, -1, 0, 1, 0}, {1, -1, 0, 0, 0}, {0, 0, 0, 0, 0}});
    }

    private void promise16GhostRefuses() {
        ShadowArchive archive = new ShadowArchive();
        archive.size(5, 4);
        archive.direction(0, 4, 3);
        archive.direction(1, 1, 0);
        same("16: just not enough", -1, archive.ghost(1, 4, 3));
        refuses("16: enough", STATE, () -> archive.ghost(3, 0, 0));
        refuses("16: mask 256", ARGUMENT, () -> archive.ghost(256, 0, 0));
        refuses("16: mask -1", ARGUMENT, () -> archive.ghost(-1, 0, 0));
        refuses("16: mask before pixel", ARGUMENT, () -> archive.ghost(256, 5, 0));
        refuses("16: column 5", INDEX, () -> archive.ghost(1, 5, 0));
        refuses("16: row 4", INDEX, () -> archive.ghost(1, 0, 4));
        refuses("16: column -1", INDEX, () -> archive.ghost(1, -1, 0));
        refuses("16: row -1", INDEX, () -> archive.ghost(1, 0, -1));
        refuses("16: pixel before state", INDEX, () -> archive.ghost(3, 0, 4));
        same("16: the picture stays", 0, archive.look(0, 0, 0));
    }

    private void promise17Keep() {
        ShadowArchive archive = sixPixels();
        projectAll(archive, 0, 1);
        archive.keep();
        archive.pixel(0, 0, 100);
        archive.put(0, 0, 100);
        same("17: kept", 1, archive.look(1, 0, 0));
        same("17: the picture goes on", 100, archive.look(0, 0, 0));
        same("17: shelves as they were", 2, archive.add(true));
        bins("17: with their bins", archive, 0, 109, 14, 10);
        archive.keep();
        same("17: in place of what was", 101, archive.look(1, 0, 0));
        archive.keep();
        archive.pixel(0, 0, 0);
        archive.drop(0);
        archive.drop(1);
        archive.project(0);
        archive.project(2);
        same("17: also what was empty", 1, archive.add(false));
        same("17: (1, 1) was empty", 0, archive.shelf(2, 3));
        same("17: keeps over add()", 101, archive.look(1, 0, 0));
    }

    private void promise18Add() {
        ShadowArchive archive = sixPixels();
        refuses("18: nothing kept", STATE, () -> archive.add(true));
        refuses("18: nothing kept to take away", STATE, () -> archive.add(false));
        archive.keep();
        archive.pixel(1, 0, -7);
        same("18: nothing filled", 0, archive.add(true));
        same("18: plus", -5, archive.look(0, 1, 0));
        same("18: plus at the last pixel", 12, archive.look(0, 2, 1));
        archive.add(false);
        archive.add(false);
        same("18: taken away", -9, archive.look(0, 1, 0));
        same("18: taken away from itself", 0, archive.look(0, 0, 0));
        archive.pixel(0, 0, LEAST);
        archive.keep();
        archive.pixel(0, 0, 1);
        archive.add(false);
        same("18: wraps", LEAST + 1, archive.look(0, 0, 0));
        archive.add(true);
        same("18: and back", 1, archive.look(0, 0, 0));
    }

    private void promise18AddShelves() {
        ShadowArchive archive = sixPixels();
        projectAll(archive, 0, 1, 2);
        archive.put(1, 0, 60);
        archive.keep();
        archive.direction(0, 3, 1);
        archive.project(0);
        archive.direction(1, -1, 0);
        archive.project(1);
        archive.project(3);
        same("18: only those of the same direction that were filled", 2, archive.add(false));
        same("18: another direction", 0, archive.shelf(0, 3));
        same("18: and keeps it", 3, archive.shelf(0, 0));
        same("18: was empty", 0, archive.shelf(3, 3));
        bins("18: bin by bin", archive, 1, -54, 0);
        bins("18: to nothing", archive, 2, 0, 0, 0, 0);
        archive.drop(2);
        same("18: an empty one stays empty", 1, archive.add(true));
        same("18: empty", 0, archive.shelf(2, 3));
        bins("18: plus", archive, 1, 6, 15);
        archive.direction(0, 1, 2);
        archive.direction(5, 0, 1);
        archive.project(5);
        same("18: the kept one's shelf of that number had no direction", 1, archive.add(true));
        same("18: so it is empty", 0, archive.shelf(5, 3));
    }
}
