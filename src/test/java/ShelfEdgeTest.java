/** Each sentence of the promises 5 to 10 (direction, shelf, project, drop, bin, put), at its boundary cases. */
public final class ShelfEdgeTest extends Checks {
    public static void main(String[] args) {
        ShelfEdgeTest test = new ShelfEdgeTest();
        test.run(
                test::directionIsToldOneWay,
                test::directionPerhapsTheSame,
                test::directionEmpties,
                test::directionRefusesNoShelf,
                test::directionRefusesNone,
                test::directionRefusesAnothers,
                test::shelfTellsFour,
                test::shelfRefusesNoWhat,
                test::shelfRefusesNoDirection,
                test::projectSums,
                test::projectRefuses,
                test::dropTellsWhetherItWasFilled,
                test::dropRefuses,
                test::binFirstAndLast,
                test::binRefusesNoShelf,
                test::binRefusesNoDirectionOrEmpty,
                test::binRefusesNoBin,
                test::putTellsWhatItWas,
                test::putRefusesLikewise);
    }

    private void directionIs(ShadowArchive archive, int shelf, int p, int q) {
        same("p", p, archive.shelf(shelf, 0));
        same("q", q, archive.shelf(shelf, 1));
    }

    private void directionIsToldOneWay() {
        sentence("5: A shelf gets a direction, (p, q) or (-p, -q)");
        int[][] given = {{16, 15, 16, 15}, {-16, -15, 16, 15}, {16, -15, -16, 15}, {-16, 15, -16, 15}, {1, 16, 1, 16},
            {-1, -16, 1, 16}, {1, 0, 1, 0}, {-1, 0, 1, 0}, {0, 1, 0, 1}, {0, -1, 0, 1}};
        for (int[] d : given) {
            ShadowArchive archive = sized(4, 4);
            archive.direction(7, d[0], d[1]);
            directionIs(archive, 7, d[2], d[3]);
        }
        ShadowArchive turned = sixPixels();
        turned.direction(2, 2, -3);
        turned.project(2);
        turned.direction(4, 2, 3);
        turned.project(4);
        bins("(-2, 3), not (2, 3)", turned, 2, 6, 0, 3, 5, 0, 2, 4, 0, 1);
        bins("(2, 3)", turned, 4, 3, 0, 6, 2, 0, 5, 1, 0, 4);
    }

    private void directionPerhapsTheSame() {
        sentence("5: (perhaps the one that it has)");
        ShadowArchive archive = sixPixels();
        archive.direction(3, -2, 1);
        directionIs(archive, 3, -2, 1);
        archive.direction(3, 2, -1);
        directionIs(archive, 3, -2, 1);
        archive.direction(1, -1, 0);
        directionIs(archive, 1, 1, 0);
        archive.project(3);
        bins("its bins", archive, 3, 6, 5, 7, 2, 1);
    }

    private void directionEmpties() {
        sentence("5: and is empty");
        ShadowArchive archive = sixPixels();
        projectAll(archive, 0, 1);
        archive.direction(0, 0, -1);
        same("with the one that it had", 0, archive.shelf(0, 3));
        refuses("no bin", STATE, () -> archive.bin(0, 0));
        archive.direction(1, 7, 2);
        same("with another", 0, archive.shelf(1, 3));
        same("was not filled", false, archive.drop(1));
        archive.direction(7, 1, 0);
        same("a shelf that had none", 0, archive.shelf(7, 3));
        archive.project(2);
        archive.direction(3, 3, 1);
        same("no other shelf", 1, archive.shelf(2, 3));
        refuses("no shelf to rebuild from", STATE, () -> archive.rebuild(5));
    }

    private void directionRefusesNoShelf() {
        sentence("5: IndexOutOfBoundsException, when there is no such shelf");
        ShadowArchive archive = sixPixels();
        for (int s : new int[] {-1, 8, 16, LEAST, GREATEST}) {
            refuses("shelf " + s, INDEX, () -> archive.direction(s, 3, 1));
            refuses("shelf " + s + ", before no direction", INDEX, () -> archive.direction(s, 0, 0));
            refuses("shelf " + s + ", before another's", INDEX, () -> archive.direction(s, 1, 0));
        }
    }

    private void directionRefusesNone() {
        sentence("5: IllegalArgumentException, when they are none");
        int[][] none = {{0, 0}, {0, 2}, {0, -2}, {2, 0}, {-2, 0}, {16, 0}, {0, 16}, {2, 2}, {2, 4}, {3, -3}, {-9, 6},
            {15, 10}, {14, 7}, {13, 13}, {16, 16}, {-16, 2}, {17, 1}, {1, 17}, {-17, 1}, {1, -17}, {17, 0}, {0, 17},
            {17, 16}, {16, 17}, {LEAST, 1}, {1, LEAST}};
        for (int[] d : none) {
            ShadowArchive archive = sixPixels();
            archive.project(2);
            String what = "(" + d[0] + ", " + d[1] + ")";
            refuses(what, ARGUMENT, () -> archive.direction(2, d[0], d[1]));
            bins(what + " changes nothing", archive, 2, 3, 8, 6, 4);
            refuses(what + " of a shelf without", ARGUMENT, () -> archive.direction(5, d[0], d[1]));
            refuses(what + " gives it none", STATE, () -> archive.shelf(5, 0));
        }
    }

    private void directionRefusesAnothers() {
        sentence("5: IllegalArgumentException, when .. another shelf has it");
        ShadowArchive archive = sixPixels();
        archive.project(2);
        refuses("of a lower shelf", ARGUMENT, () -> archive.direction(2, 0, 1));
        refuses("of a lower shelf, turned", ARGUMENT, () -> archive.direction(2, -1, 0));
        refuses("of a higher shelf", ARGUMENT, () -> archive.direction(2, -2, 1));
        refuses("of a higher shelf, turned", ARGUMENT, () -> archive.direction(2, 2, -1));
        refuses("for a shelf without", ARGUMENT, () -> archive.direction(7, 1, 1));
        bins("a refused one changes nothing", archive, 2, 3, 8, 6, 4);
        refuses("and gives none", STATE, () -> archive.shelf(7, 0));
        archive.direction(2, 2, 1);
        directionIs(archive, 2, 2, 1);
        archive.direction(7, 1, 1);
        directionIs(archive, 7, 1, 1);
        archive.keep();
        archive.direction(7, 1, 2);
        archive.direction(6, 1, 1);
        same("a kept shelf's is no hindrance", 1, archive.shelf(6, 0));
    }

    private void shelfTellsFour() {
        sentence("6: Of a shelf: p (what 0), q (1), how many bins (2), 1 if it is filled, else 0 (3).");
        ShadowArchive archive = sized(16, 16);
        archive.direction(7, -15, 16);
        directionIs(archive, 7, -15, 16);
        same("bins of 16 times 16", 466, archive.shelf(7, 2));
        same("empty", 0, archive.shelf(7, 3));
        archive.project(7);
        same("filled", 1, archive.shelf(7, 3));
        same("as many bins", 466, archive.shelf(7, 2));
        archive.size(1, 1);
        archive.direction(7, -15, 16);
        same("bins of one pixel", 1, archive.shelf(7, 2));
        archive.size(16, 1);
        archive.direction(0, 1, 0);
        archive.direction(7, -15, 16);
        same("bins of one row, along it", 1, archive.shelf(0, 2));
        same("bins of one row", 241, archive.shelf(7, 2));
        archive.size(1, 16);
        archive.direction(0, 0, 1);
        archive.direction(7, -15, 16);
        same("bins of one column, along it", 1, archive.shelf(0, 2));
        same("bins of one column", 226, archive.shelf(7, 2));
    }

    private void shelfRefusesNoWhat() {
        sentence("6: IndexOutOfBoundsException, when there is no such shelf, or what");
        ShadowArchive archive = sixPixels();
        for (int wrong : new int[] {-1, 8, LEAST, GREATEST}) {
            refuses("shelf " + wrong, INDEX, () -> archive.shelf(wrong, 0));
            refuses("what " + wrong, INDEX, () -> archive.shelf(0, wrong));
            refuses("what " + wrong + ", before no direction", INDEX, () -> archive.shelf(7, wrong));
        }
        refuses("what 4", INDEX, () -> archive.shelf(0, 4));
        refuses("what 4, before no direction", INDEX, () -> archive.shelf(7, 4));
    }

    private void shelfRefusesNoDirection() {
        sentence("6: IllegalStateException, when it has no direction");
        ShadowArchive archive = sixPixels();
        for (int what = 0; what < 4; what++) {
            int which = what;
            refuses("shelf 4, what " + what, STATE, () -> archive.shelf(4, which));
            refuses("shelf 7, what " + what, STATE, () -> archive.shelf(7, which));
        }
        archive.drop(4);
        refuses("drop() gives none", STATE, () -> archive.shelf(4, 3));
    }

    private void projectSums() {
        sentence("7: A shelf is PROJECTED.");
        ShadowArchive archive = sixPixels();
        archive.project(3);
        archive.put(3, 2, 50);
        archive.pixel(2, 1, -6);
        archive.project(3);
        bins("in place of what was", archive, 3, -6, 5, 7, 2, 1);
        same("no other shelf", 0, archive.shelf(2, 3));
        same("the picture stays", -6, archive.look(0, 2, 1));
        archive.direction(3, 1, 2);
        archive.project(3);
        bins("along the new direction", archive, 3, 3, -6, 2, 5, 1, 4);
        archive.size(2, 2);
        archive.direction(3, 0, 1);
        archive.project(3);
        bins("nothing of the former size", archive, 3, 0, 0);
    }

    private void projectRefuses() {
        sentence("7: IndexOutOfBoundsException and IllegalStateException likewise.");
        ShadowArchive archive = sixPixels();
        for (int s : new int[] {-1, 8, LEAST, GREATEST}) {
            refuses("shelf " + s, INDEX, () -> archive.project(s));
        }
        for (int s = 4; s < 8; s++) {
            int shelf = s;
            refuses("no direction, shelf " + s, STATE, () -> archive.project(shelf));
            same("and is not filled by it", false, archive.drop(shelf));
        }
    }

    private void dropTellsWhetherItWasFilled() {
        sentence("8: A shelf is empty; whether it was filled.");
        ShadowArchive archive = sixPixels();
        same("not yet", false, archive.drop(0));
        projectAll(archive, 0, 1);
        same("filled", true, archive.drop(0));
        same("no more", false, archive.drop(0));
        refuses("no bin", STATE, () -> archive.bin(0, 0));
        same("it has its direction", 3, archive.shelf(0, 2));
        same("no other", 1, archive.shelf(1, 3));
        same("without a direction", false, archive.drop(7));
        refuses("and gets none", STATE, () -> archive.shelf(7, 3));
        archive.project(0);
        archive.keep();
        archive.drop(0);
        archive.drop(1);
        archive.project(0);
        same("the kept one's stays filled", 1, archive.add(true));
        projectAll(archive, 0, 1, 2);
        same("made anew", true, archive.regenerate(3));
        same("filled by that", true, archive.drop(3));
    }

    private void dropRefuses() {
        sentence("8: IndexOutOfBoundsException, when there is none such.");
        ShadowArchive archive = sixPixels();
        for (int s : new int[] {-1, 8, LEAST, GREATEST}) {
            refuses("shelf " + s, INDEX, () -> archive.drop(s));
        }
    }

    private void binFirstAndLast() {
        sentence("9: A bin.");
        ShadowArchive archive = sized(16, 16, to(-16, 15));
        archive.pixel(15, 15, 4);
        archive.pixel(0, 0, 5);
        archive.project(0);
        same("the first of the most", 4, archive.bin(0, 0));
        same("the last of the most", 5, archive.bin(0, 465));
        ShadowArchive other = sixPixels();
        other.project(1);
        same("the first", 6, other.bin(1, 0));
        same("the last", 15, other.bin(1, 1));
    }

    private void binRefusesNoShelf() {
        sentence("9: IndexOutOfBoundsException, when there is no such shelf");
        ShadowArchive archive = sixPixels();
        archive.project(0);
        for (int s : new int[] {-1, 8, LEAST, GREATEST}) {
            refuses("shelf " + s, INDEX, () -> archive.bin(s, 0));
            refuses("shelf " + s + ", no bin", INDEX, () -> archive.bin(s, -1));
        }
    }

    private void binRefusesNoDirectionOrEmpty() {
        sentence("9: IllegalStateException, when it has no direction, or is empty");
        ShadowArchive archive = sixPixels();
        for (int k : new int[] {0, 1, 2, 3, -1, 466, LEAST, GREATEST}) {
            refuses("no direction, bin " + k, STATE, () -> archive.bin(7, k));
            refuses("empty, bin " + k, STATE, () -> archive.bin(0, k));
        }
        archive.project(0);
        archive.drop(0);
        refuses("dropped", STATE, () -> archive.bin(0, 0));
        refuses("dropped, no bin", STATE, () -> archive.bin(0, 3));
    }

    private void binRefusesNoBin() {
        sentence("9: else IndexOutOfBoundsException, when it has no such bin");
        ShadowArchive archive = sixPixels();
        projectAll(archive, 0, 1, 2, 3);
        for (int s = 0; s < 4; s++) {
            int shelf = s;
            int count = archive.shelf(s, 2);
            for (int k : new int[] {-1, count, count + 1, 480, 481, LEAST, GREATEST}) {
                refuses("shelf " + s + ", bin " + k, INDEX, () -> archive.bin(shelf, k));
            }
        }
        archive.direction(3, 3, 1);
        archive.project(3);
        same("of a longer one the last", 4, archive.bin(3, 5));
        archive.direction(3, 2, 1);
        archive.project(3);
        refuses("is none of a shorter one", INDEX, () -> archive.bin(3, 5));
        same("whose last is before it", 4, archive.bin(3, 4));
    }

    private void putTellsWhatItWas() {
        sentence("10: A bin becomes v: what it was.");
        ShadowArchive archive = sixPixels();
        projectAll(archive, 0, 1);
        same("the last", 5, archive.put(0, 2, LEAST));
        same("the least", LEAST, archive.put(0, 2, GREATEST));
        same("the greatest", GREATEST, archive.put(0, 2, 0));
        same("0", 0, archive.put(0, 2, 0));
        same("the first", 9, archive.put(0, 0, 1));
        bins("no other bin", archive, 0, 1, 7, 0);
        bins("no other shelf", archive, 1, 6, 15);
        pixels("no pixel", archive, 0, new int[][] {{1, 2, 3}, {4, 5, 6}});
        archive.keep();
        archive.put(0, 0, 100);
        archive.add(false);
        bins("nor what is kept", archive, 0, 99, 0, 0);
        ShadowArchive most = sized(16, 16, to(16, 15));
        most.project(0);
        same("the last of the most", 0, most.put(0, 465, 3));
        same("becomes that", 3, most.bin(0, 465));
        same("a bin of no pixel", 0, most.put(0, 1, 3));
        same("becomes that too", 3, most.bin(0, 1));
    }

    private void putRefusesLikewise() {
        sentence("10: Likewise.");
        ShadowArchive archive = sixPixels();
        for (int s : new int[] {-1, 8, LEAST, GREATEST}) {
            refuses("shelf " + s, INDEX, () -> archive.put(s, 0, 1));
        }
        for (int k : new int[] {0, 3, -1, LEAST, GREATEST}) {
            refuses("no direction, bin " + k, STATE, () -> archive.put(7, k, 1));
            refuses("empty, bin " + k, STATE, () -> archive.put(0, k, 1));
        }
        same("and is not filled by it", 0, archive.shelf(0, 3));
        archive.project(0);
        for (int k : new int[] {-1, 3, 480, 481, LEAST, GREATEST}) {
            refuses("no bin " + k, INDEX, () -> archive.put(0, k, 1));
        }
        bins("and is not changed by it", archive, 0, 9, 7, 5);
        archive.drop(0);
        refuses("dropped", STATE, () -> archive.put(0, 0, 1));
    }
}
