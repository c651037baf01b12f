/** Each sentence of the promises 11 to 15 (enough, rebuild, about, regenerate, audit), at its boundary cases. */
public final class RebuildEdgeTest extends Checks {
    private static final int[] WRONG_MASKS = {-1, 256, 257, 511, -256, LEAST, GREATEST};

    public static void main(String[] args) {
        RebuildEdgeTest test = new RebuildEdgeTest();
        test.run(
                test::enoughOfSomeShelves,
                test::enoughRefuses,
                test::rebuildTellsNone,
                test::rebuildTellsMany,
                test::rebuildTellsTheLowest,
                test::rebuildRefusesMask,
                test::rebuildRefusesEmpty,
                test::aboutTellsSteps,
                test::aboutTellsTheLowestBin,
                test::aboutStaysBehindRefusals,
                test::aboutStaysBehindSize,
                test::aboutRefuses,
                test::regenerateFills,
                test::regenerateDoesNot,
                test::regenerateFromAllThatAreFilled,
                test::regenerateRefuses,
                test::auditTellsNone,
                test::auditTellsTheLowest,
                test::auditTellsMany,
                test::rebuiltStays);
    }

    /** One pixel, with as many shelves as there are numbers, each filled with its number. */
    private static ShadowArchive onePixel(int... numbers) {
        int[][] directions = {{1, 0}, {0, 1}, {1, 1}, {-1, 1}, {2, 1}, {-2, 1}, {1, 2}, {-1, 2}};
        ShadowArchive archive = sized(1, 1, java.util.Arrays.copyOf(directions, numbers.length));
        for (int s = 0; s < numbers.length; s++) {
            archive.project(s);
            archive.put(s, 0, numbers[s]);
        }
        return archive;
    }

    private static ShadowArchive sixPixelsFilled(int... shelves) {
        ShadowArchive archive = sixPixels();
        projectAll(archive, shelves);
        return archive;
    }

    private void enoughOfSomeShelves() {
        sentence("11: Whether some shelves are ENOUGH.");
        ShadowArchive archive = sized(6, 4, to(-3, 1), to(2, 1), to(1, 0), to(0, 1), to(1, 1));
        same("no shelf", false, archive.enough(0));
        same("p 5, q 2", false, archive.enough(3));
        same("p 6", true, archive.enough(7));
        same("p 0, q 1", false, archive.enough(8));
        same("p 6, q 3", true, archive.enough(19));
        same("p 1, q 2", false, archive.enough(24));
        same("p 5, q 3", false, archive.enough(11));
        same("p 4, q 3, also of the highest", false, archive.enough(0xE0 + 25));
        same("q 4", true, archive.enough(27));
        same("all", true, archive.enough(255));
        archive.size(6, 4);
        same("nothing has a direction", false, archive.enough(255));
    }

    private void enoughRefuses() {
        sentence("11: IllegalArgumentException, when mask is not 0 .. 255.");
        ShadowArchive archive = sixPixels();
        for (int mask : WRONG_MASKS) {
            refuses("enough(" + mask + ")", ARGUMENT, () -> archive.enough(mask));
        }
        same("0", false, archive.enough(0));
        same("255", true, archive.enough(255));
    }

    private void rebuildTellsNone() {
        sentence("12: NONE, when that does not come to all pixels (the former rebuilt one stays)");
        ShadowArchive archive = sixPixelsFilled(0, 1, 2, 3);
        same("before there was any", NONE, archive.rebuild(3));
        refuses("there is none", STATE, () -> archive.look(2, 0, 0));
        same("all come", MANY, archive.rebuild(7));
        archive.pixel(2, 0, 30);
        projectAll(archive, 0, 1, 2, 3);
        same("one shelf", NONE, archive.rebuild(4));
        same("comes to two", 2, archive.about(0));
        same("no shelf", NONE, archive.rebuild(0));
        same("shelves without a direction", NONE, archive.rebuild(0xF0));
        same("rows and columns", NONE, archive.rebuild(3));
        pixels("the former", archive, 2, new int[][] {{1, 2, 3}, {4, 5, 6}});
        same("no shelf of one pixel", NONE, new ShadowArchive().rebuild(0));
        ShadowArchive partly = sized(16, 16, to(8, 7), to(-7, 8));
        projectAll(partly, 0, 1);
        same("some do not come", NONE, partly.rebuild(3));
        refuses("so there is no picture", STATE, () -> partly.look(2, 15, 0));
        same("though some do", true, partly.about(0) > 0 && partly.about(0) < 256);
        twoDoNotCome(sized(16, 2, to(15, 1), to(0, 1)));
        twoDoNotCome(sized(2, 16, to(1, 15), to(1, 0)));
    }

    private void twoDoNotCome(ShadowArchive archive) {
        archive.project(0);
        same("two of 32 do not come", NONE, archive.rebuild(1));
        same("but 30 do", 30, archive.about(0));
        refuses("there is no picture", STATE, () -> archive.look(2, 0, 0));
        same("nor is a shelf made anew", false, archive.regenerate(1));
    }

    private void rebuildTellsMany() {
        sentence("12: MANY, when it does and the rebuilt one agrees with all of them");
        ShadowArchive archive = sixPixelsFilled(0, 1, 2, 3);
        archive.pixel(0, 0, 1000);
        same("all", MANY, archive.rebuild(15));
        pixels("of the bins, not of the picture", archive, 2, new int[][] {{1, 2, 3}, {4, 5, 6}});
        archive.put(1, 0, 0);
        same("a wrong shelf that is not of them", MANY, archive.rebuild(13));
        tallAndWideComeToAll();
        same("one pixel, eight shelves", MANY, onePixel(5, 5, 5, 5, 5, 5, 5, 5).rebuild(255));
        ShadowArchive widest = sized(16, 16, to(16, 15));
        widest.pixel(0, 0, LEAST);
        widest.pixel(15, 15, GREATEST);
        widest.project(0);
        same("one shelf that is enough", MANY, widest.rebuild(1));
        same("the first pixel", LEAST, widest.look(2, 0, 0));
        same("the last pixel", GREATEST, widest.look(2, 15, 15));
    }

    /** As many pixels as w times h: neither w times w nor h times h. */
    private void tallAndWideComeToAll() {
        int[][] sizes = {{1, 16}, {16, 1}, {2, 5}, {5, 2}, {1, 2}, {2, 1}};
        for (int[] size : sizes) {
            ShadowArchive archive = sized(size[0], size[1], to(1, 0), to(0, 1), to(size[0], 1), to(1, size[1]));
            archive.pixel(size[0] - 1, size[1] - 1, 7);
            projectAll(archive, 2, 3);
            String what = size[0] + " times " + size[1];
            same(what + ", along p", MANY, archive.rebuild(4));
            same(what + ", along q", MANY, archive.rebuild(8));
            same(what + ", steps", size[0] * size[1], archive.about(0));
            same(what + ", the last pixel", 7, archive.look(2, size[0] - 1, size[1] - 1));
            same(what + ", regenerates", true, archive.regenerate(0));
            same(what + ", its last row", 7, archive.bin(0, size[1] - 1));
            same(what + ", is of one picture", NONE, archive.audit());
        }
    }

    private void rebuildTellsTheLowest() {
        sentence("12: otherwise the lowest shelf of them with which it does not agree");
        for (int wrong = 1; wrong < 8; wrong++) {
            int[] numbers = new int[8];
            numbers[wrong] = 1;
            numbers[7] = 1;
            ShadowArchive archive = onePixel(numbers);
            same("shelf " + wrong, wrong, archive.rebuild(255));
            same("without it", wrong == 7 ? MANY : 7, archive.rebuild(255 - (1 << wrong)));
            same("rebuilt all the same", 0, archive.look(2, 0, 0));
        }
        ShadowArchive itself = sized(3, 2, to(5, 1));
        itself.project(0);
        itself.put(0, 3, 1);
        same("shelf 0, a bin without pixels", 0, itself.rebuild(1));
        ShadowArchive archive = sixPixelsFilled(0, 2);
        archive.put(0, 2, 7);
        same("the latest that was rebuilt, though it does not agree", 2, archive.rebuild(5));
        same("is there: 7 less 1", 6, archive.look(2, 0, 1));
    }

    private void rebuildRefusesMask() {
        sentence("12: IllegalArgumentException likewise");
        ShadowArchive archive = sixPixelsFilled(0, 1, 2);
        for (int mask : WRONG_MASKS) {
            refuses("rebuild(" + mask + ")", ARGUMENT, () -> archive.rebuild(mask));
        }
        refuses("nothing is rebuilt", STATE, () -> archive.look(2, 0, 0));
        refuses("before one is empty", ARGUMENT, () -> archive.rebuild(256 + 8));
    }

    private void rebuildRefusesEmpty() {
        sentence("12: IllegalStateException, when one of them is empty");
        ShadowArchive archive = sixPixelsFilled(0, 1, 2);
        refuses("shelf 3", STATE, () -> archive.rebuild(8));
        refuses("though the others are enough", STATE, () -> archive.rebuild(15));
        refuses("of all", STATE, () -> archive.rebuild(255));
        refuses("nothing is rebuilt", STATE, () -> archive.look(2, 0, 0));
        same("without it", MANY, archive.rebuild(0xF7));
        archive.drop(0);
        refuses("dropped", STATE, () -> archive.rebuild(7));
        same("the former one stays", 6, archive.look(2, 2, 1));
        ShadowArchive highest = new ShadowArchive();
        highest.direction(7, 1, 0);
        refuses("shelf 7", STATE, () -> highest.rebuild(128));
        same("only shelves without a direction", NONE, highest.rebuild(127));
    }

    private void aboutTellsSteps() {
        sentence("13: its STEPS (what 0, 0 before; also when it told NONE)");
        ShadowArchive archive = sized(3, 3, to(1, 1), to(-1, 1), to(0, 1), to(1, 0));
        same("0 before", 0, archive.about(0));
        projectAll(archive, 0, 1, 2, 3);
        archive.rebuild(7);
        same("all", 9, archive.about(0));
        same("told NONE", NONE, archive.rebuild(3));
        same("steps of NONE", 5, archive.about(0));
        archive.put(2, 0, 1);
        same("told a shelf", 2, archive.rebuild(15));
        same("steps of that", 9, archive.about(0));
        archive.rebuild(0);
        same("no shelf", 0, archive.about(0));
    }

    private void aboutTellsTheLowestBin() {
        sentence("13: the lowest bin with which the rebuilt picture did not agree, of the shelf that it told,"
                + " NONE, when it told none (1)");
        ShadowArchive archive = sized(3, 2, to(3, 1), to(5, 1), to(0, 1));
        same("before", NONE, archive.about(1));
        projectAll(archive, 0, 1, 2);
        archive.rebuild(7);
        same("told MANY", NONE, archive.about(1));
        archive.put(1, 7, 1);
        archive.rebuild(7);
        same("the last", 7, archive.about(1));
        archive.put(1, 4, -1);
        archive.put(2, 0, 1);
        same("shelf 1 is lower", 1, archive.rebuild(7));
        same("one of no pixel, of shelf 1", 4, archive.about(1));
        archive.put(1, 0, LEAST);
        archive.rebuild(7);
        same("the first", 0, archive.about(1));
        archive.rebuild(0);
        same("told NONE", NONE, archive.about(1));
        archive.rebuild(5);
        same("of shelf 2", 0, archive.about(1));
        archive.rebuild(1);
        same("told MANY again", NONE, archive.about(1));
    }

    private void aboutStaysBehindRefusals() {
        sentence("13: Of the latest rebuild() that did not throw");
        ShadowArchive archive = sized(3, 3, to(1, 1), to(-1, 1), to(0, 1), to(1, 0));
        projectAll(archive, 0, 1, 2);
        refuses("empty", STATE, () -> archive.rebuild(15));
        same("none yet", 0, archive.about(0));
        archive.put(2, 1, 4);
        same("does not agree", 2, archive.rebuild(7));
        refuses("empty", STATE, () -> archive.rebuild(9));
        refuses("mask", ARGUMENT, () -> archive.rebuild(256));
        refuses("mask below", ARGUMENT, () -> archive.rebuild(-1));
        same("steps", 9, archive.about(0));
        same("the bin", 1, archive.about(1));
        archive.drop(1);
        archive.direction(2, 2, 1);
        archive.pixel(0, 0, 3);
        archive.keep();
        archive.add(true);
        archive.enough(7);
        archive.ghost(0, 0, 0);
        same("steps behind others", 9, archive.about(0));
        same("the bin behind others", 1, archive.about(1));
    }

    private void aboutStaysBehindSize() {
        sentence("13: (also behind size())");
        ShadowArchive archive = onePixel(1, 2);
        same("does not agree", 1, archive.rebuild(3));
        archive.size(4, 4);
        refuses("nothing rebuilt", STATE, () -> archive.look(2, 0, 0));
        same("steps", 1, archive.about(0));
        same("the bin", 0, archive.about(1));
        refuses("a size that is refused", ARGUMENT, () -> archive.size(0, 0));
        same("steps behind that", 1, archive.about(0));
        archive.rebuild(255);
        same("of the latest, steps", 0, archive.about(0));
        same("of the latest, the bin", NONE, archive.about(1));
    }

    private void aboutRefuses() {
        sentence("13: IllegalArgumentException, for another what.");
        ShadowArchive archive = new ShadowArchive();
        for (int what : new int[] {-1, 2, 3, 99, LEAST, GREATEST}) {
            refuses("about(" + what + ")", ARGUMENT, () -> archive.about(what));
        }
    }

    private void regenerateFills() {
        sentence("14: Fills an empty shelf from all that are filled: whether that was done"
                + " (they rebuild a picture; it is that one's)");
        ShadowArchive archive = sixPixelsFilled(0, 1, 2);
        archive.direction(7, 5, 1);
        archive.project(7);
        for (int k = 0; k < 8; k++) {
            archive.put(7, k, 100 + k);
        }
        archive.drop(7);
        archive.pixel(1, 1, 50);
        same("done", true, archive.regenerate(7));
        bins("of that picture, 0 where there is no pixel", archive, 7, 3, 2, 1, 0, 0, 6, 5, 4);
        same("filled", 1, archive.shelf(7, 3));
        pixels("the picture stays", archive, 0, new int[][] {{1, 2, 3}, {4, 50, 6}});
        bins("the others stay", archive, 0, 9, 7, 5);
        same("one that is empty stays", 0, archive.shelf(3, 3));
        ShadowArchive one = onePixel(8, 8);
        one.drop(0);
        same("one pixel", true, one.regenerate(0));
        bins("from the other", one, 0, 8);
    }

    private void regenerateDoesNot() {
        sentence("14: whether that was done");
        ShadowArchive archive = sixPixels();
        same("nothing is filled", false, archive.regenerate(0));
        same("nothing is filled, of one pixel", false, sized(1, 1, to(1, 0)).regenerate(0));
        projectAll(archive, 0, 1);
        same("too few", false, archive.regenerate(3));
        same("it stays empty", 0, archive.shelf(3, 3));
        refuses("no bin", STATE, () -> archive.bin(3, 0));
        archive.project(3);
        archive.drop(3);
        same("its own former bins do not count", false, archive.regenerate(3));
        refuses("no bin", STATE, () -> archive.bin(3, 0));
    }

    private void regenerateFromAllThatAreFilled() {
        sentence("14: from all that are filled");
        ShadowArchive archive = onePixel(0, 7, 9, 7);
        archive.drop(0);
        same("they need not agree", true, archive.regenerate(0));
        bins("the lowest tells", archive, 0, 7);
        archive.put(0, 0, 4);
        archive.drop(3);
        same("also lower ones", true, archive.regenerate(3));
        bins("the lowest tells again", archive, 3, 4);
        ShadowArchive higher = onePixel(1, 2, 3, 4, 5, 6, 7, 8);
        for (int s = 0; s < 7; s++) {
            higher.drop(s);
        }
        same("also the highest alone", true, higher.regenerate(3));
        bins("shelf 7 tells", higher, 3, 8);
    }

    private void regenerateRefuses() {
        sentence("14: IndexOutOfBoundsException, when there is no such shelf; IllegalStateException, when it has no"
                + " direction, or is filled.");
        ShadowArchive archive = sixPixelsFilled(0, 1, 2);
        for (int s : new int[] {-1, 8, LEAST, GREATEST}) {
            refuses("shelf " + s, INDEX, () -> archive.regenerate(s));
        }
        for (int s = 4; s < 8; s++) {
            int shelf = s;
            refuses("no direction, shelf " + s, STATE, () -> archive.regenerate(shelf));
        }
        archive.put(2, 0, 77);
        refuses("filled", STATE, () -> archive.regenerate(2));
        same("and stays as it is", 77, archive.bin(2, 0));
        archive.drop(2);
        same("empty", false, archive.regenerate(2));
        archive.size(3, 2);
        refuses("no direction behind size()", STATE, () -> archive.regenerate(2));
    }

    private void auditTellsNone() {
        sentence("15: NONE, if they rebuild one that agrees with all");
        ShadowArchive archive = sixPixelsFilled(0, 1, 2);
        archive.pixel(0, 0, 50);
        same("of the shelves, not of the picture; an empty one does not count", NONE, archive.audit());
        same("one pixel, one shelf", NONE, onePixel(3).audit());
        same("one pixel, eight shelves", NONE, onePixel(3, 3, 3, 3, 3, 3, 3, 3).audit());
        ShadowArchive highest = new ShadowArchive();
        highest.direction(7, 1, 0);
        highest.project(7);
        same("shelf 7 alone", NONE, highest.audit());
        archive.put(2, 0, 0);
        archive.drop(2);
        archive.pixel(0, 0, 1);
        archive.project(3);
        same("a wrong one that is dropped", NONE, archive.audit());
    }

    private void auditTellsTheLowest() {
        sentence("15: otherwise the lowest filled shelf without which all others that are filled do");
        for (int wrong = 0; wrong < 8; wrong++) {
            int[] numbers = new int[8];
            numbers[wrong] = -1;
            same("shelf " + wrong, wrong, onePixel(numbers).audit());
        }
        same("either of two: the lowest", 0, onePixel(1, 2).audit());
        ShadowArchive empty = onePixel(5, 1, 2);
        empty.drop(0);
        same("an empty one is not told", 1, empty.audit());
        ShadowArchive archive = sixPixelsFilled(0, 1, 2, 3);
        archive.put(2, 3, 0);
        same("the others are just enough", 2, archive.audit());
        same("and nothing is mended", 0, archive.bin(2, 3));
        same("told again", 2, archive.audit());
        ShadowArchive noPixel = sized(3, 2, to(3, 1), to(5, 1));
        projectAll(noPixel, 0, 1);
        noPixel.put(1, 4, 1);
        same("a bin of no pixel", 1, noPixel.audit());
    }

    private void auditTellsMany() {
        sentence("15: MANY, when there is none such");
        same("nothing has a direction", MANY, new ShadowArchive().audit());
        same("nothing is filled", MANY, sixPixels().audit());
        same("too few", MANY, sixPixelsFilled(0, 1).audit());
        same("one alone, too few", MANY, sixPixelsFilled(2).audit());
        same("two are wrong", MANY, onePixel(1, 1, 2, 3).audit());
        same("two against two", MANY, onePixel(1, 1, 2, 2).audit());
        ShadowArchive just = sixPixelsFilled(0, 1, 2);
        just.put(2, 3, 0);
        same("without it too few", MANY, just.audit());
        ShadowArchive alone = sized(3, 2, to(5, 1));
        alone.project(0);
        alone.put(0, 3, 1);
        same("one alone, with no other to tell", MANY, alone.audit());
    }

    private void rebuiltStays() {
        sentence("15: (The rebuilt picture, and what about() tells, stay: here, and with regenerate().)");
        ShadowArchive archive = sixPixelsFilled(0, 1, 2);
        archive.put(1, 0, 7);
        same("does not agree", 1, archive.rebuild(7));
        int[][] rebuilt = new int[2][3];
        for (int cell = 0; cell < 6; cell++) {
            rebuilt[cell / 3][cell % 3] = archive.look(2, cell % 3, cell / 3);
        }
        int bin = archive.about(1);
        archive.pixel(0, 0, 500);
        projectAll(archive, 0, 1, 2);
        same("of one picture", NONE, archive.audit());
        pixels("behind audit()", archive, 2, rebuilt);
        same("steps", 6, archive.about(0));
        same("the bin", bin, archive.about(1));
        same("done", true, archive.regenerate(3));
        pixels("behind regenerate()", archive, 2, rebuilt);
        same("steps behind regenerate()", 6, archive.about(0));
        same("the bin behind regenerate()", bin, archive.about(1));
        archive.put(0, 0, 1);
        same("a wrong one is found", 0, archive.audit());
        archive.drop(1);
        archive.drop(2);
        archive.drop(3);
        same("nothing is told", MANY, archive.audit());
        same("not done", false, archive.regenerate(1));
        pixels("behind all of it", archive, 2, rebuilt);
        same("steps behind all of it", 6, archive.about(0));
        same("the bin behind all of it", bin, archive.about(1));
        ShadowArchive fresh = onePixel(5, 5);
        fresh.drop(0);
        fresh.regenerate(0);
        fresh.audit();
        refuses("nothing rebuilt before", STATE, () -> fresh.look(2, 0, 0));
        same("no steps before", 0, fresh.about(0));
    }
}
