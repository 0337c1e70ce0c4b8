/**
 * The sentences of the promises 1 to 19 that name a boundary case, each with a test of its own.
 * What the promises share is in TermsTest.
 */
public final class BoundaryTest {
    private static final Class<?> ILLEGAL = IllegalArgumentException.class;
    private static final Class<?> NO_INDEX = IndexOutOfBoundsException.class;
    private static final Class<?> NO_STATE = IllegalStateException.class;

    public static void main(String[] args) {
        newSheet();
        newWayAndDraft();
        newFonts();
        sheetSizes();
        sheetIsLight();
        sheetAlone();
        wayRange();
        wayAnswers();
        writeRange();
        writeLowestFirst();
        writeUpToFull();
        writeBeyondFull();
        wipeEmptyAndNot();
        fontRange();
        fontWithoutDarkDots();
        fontAlone();
        cellRange();
        cellRows();
        cellBits();
        textRange();
        textScales();
        barsRange();
        squareRange();
        squareBitsItTakes();
        squareGreatest();
        pictureRowsNotWhole();
        pictureRows();
        turnPlaces();
        turnOfNarrowSheets();
        turnOfSmallerSheets();
        turnAlone();
        toldRange();
        toldOfNone();
        toldOfEdges();
        countAsFarAsOnTheSheet();
        countOfTheGreatestSheet();
        dotsRange();
        dotsNotOnTheSheet();
        dotsFirstAsHighest();
        runNotOnTheSheet();
        runToTheEdge();
        runOfNone();
        Checks.end();
    }

    private static void newSheet() {
        Checks.about("1: A sheet of 64 times 64 light dots");
        DotSheet x = new DotSheet();
        int[] due = {64, 64, DotSheet.NONE, DotSheet.NONE, DotSheet.NONE, DotSheet.NONE, 0};
        for (int what = 0; what <= 6; what++) {
            Checks.due("told " + what, x.told(what), due[what]);
        }
        Checks.due("its last dot", x.run(63, 63, 0, false), 1);
        Checks.index("no dot to the right", () -> x.run(64, 63, 0, false));
        Checks.index("no dot below", () -> x.run(63, 64, 0, false));
    }

    private static void newWayAndDraft() {
        Checks.about("1: the way 0; an empty draft");
        DotSheet x = new DotSheet();
        Checks.state("no bit", () -> x.square(0, 0, 1, 1, 0));
        Checks.due("no width", x.bars(0, 0, 9, 9, 0), 0);
        Checks.due("no row", x.picture(0, 0, 9), 0);
        Checks.due("one dot", x.frame(3, 3, 1, 1, 1), 1);
        Checks.due("dark", x.told(6), 1);
        Checks.due("way 0", x.way(0), 0);
        Checks.due("no byte", x.wipe(), 0);
        Checks.due("the first byte", x.write(1, 1), 1);
    }

    private static void newFonts() {
        Checks.about("1: all fonts with cells of 8 times 8 and the gap 0");
        for (int font = 0; font <= 3; font++) {
            DotSheet x = new DotSheet();
            int f = font;
            for (int r = 0; r < 8; r++) {
                x.cell(f, 9, r, 0xFF);
            }
            Checks.index("no row 8, font " + f, () -> x.cell(f, 9, 8, 0xFF));
            x.write(3, 0x09_00_09);
            Checks.due("two cells and an empty one, font " + f, x.text(0, 0, f, 0x11, 0), 128);
            Checks.due("told, font " + f, x.dots(0, 0, 32), 0xFF00FF00L);
            Checks.due("the lowest row, font " + f, x.dots(0, 7, 32), 0xFF00FF00L);
        }
    }

    private static void sheetSizes() {
        Checks.about("2: IllegalArgumentException: width or height is not 1 .. 1024");
        Checks.range("width", 1, 1024, (x, v) -> x.sheet(v, 5));
        Checks.range("height", 1, 1024, (x, v) -> x.sheet(5, v));
        int[][] sizes = {{1, 1}, {1, 1024}, {1024, 1}, {1024, 1024}, {64, 65}};
        DotSheet x = new DotSheet();
        for (int[] size : sizes) {
            x.sheet(size[0], size[1]);
            Checks.due("width", x.told(0), size[0]);
            Checks.due("height", x.told(1), size[1]);
        }
    }

    private static void sheetIsLight() {
        Checks.about("2: A new sheet, light all over");
        DotSheet x = new DotSheet();
        x.write(1, 255);
        int[][] sizes = {{1024, 1024}, {1, 1}, {1024, 1024}, {64, 64}, {65, 1024}, {1024, 65}, {64, 64}};
        for (int[] size : sizes) {
            x.sheet(size[0], size[1]);
            Checks.due("light", x.told(6), 0);
            Checks.due("all of it is dark", x.bars(0, 0, 1024, 50, 0), size[0] * size[1]);
            Checks.due("and told", x.told(6), size[0] * size[1]);
        }
        x.turn(1);
        x.sheet(64, 64);
        Checks.due("light behind a turn", x.told(6), 0);
        x.turn(1);
        Checks.due("light when turned", x.told(6), 0);
    }

    private static void sheetAlone() {
        Checks.about("2: the way, the draft and the fonts stay");
        DotSheet x = new DotSheet();
        x.way(1);
        x.write(1, 5);
        x.font(2, 2, 1, 0);
        x.cell(2, 5, 0, 3);
        x.sheet(9, 9);
        Checks.due("the way", x.way(0), 1);
        Checks.due("the font", x.text(0, 0, 2, 0x11, 0), 2);
        Checks.due("the draft", x.wipe(), 1);
    }

    private static void wayRange() {
        Checks.about("3: IllegalArgumentException: it is not 0 .. 2");
        Checks.range("way", 0, 2, (x, v) -> x.way(v));
    }

    private static void wayAnswers() {
        Checks.about("3: Answers what it was");
        DotSheet x = new DotSheet();
        int before = 0;
        for (int way : new int[] {0, 1, 1, 2, 2, 0, 2, 1, 0}) {
            Checks.due("before " + way, x.way(way), before);
            before = way;
        }
    }

    private static void writeRange() {
        Checks.about("4: IllegalArgumentException: n is not 1 .. 8");
        Checks.range("n", 1, 8, (x, v) -> x.write(v, 0x1122334455667788L));
    }

    private static void writeLowestFirst() {
        Checks.about("4: The n lowest bytes of a long, the lowest first, come behind the draft. Answers how many it has then");
        for (int n = 1; n <= 8; n++) {
            DotSheet x = new DotSheet();
            Checks.due("one byte", x.write(1, 0x55AAL), 1);
            Checks.due(n + " bytes behind it", x.write(n, 0x8877665544332211L), 1 + n);
            x.picture(0, 0, 8);
            Checks.due("the first byte", x.dots(0, 0, 8), 0xAA);
            for (int k = 1; k <= 8; k++) {
                Checks.due("byte " + k + " of " + n, x.dots(0, k, 8), k <= n ? 0x11 * k : 0);
            }
        }
        DotSheet x = new DotSheet();
        x.write(8, -2L);
        x.picture(0, 0, 64);
        Checks.due("a long below 0", x.dots(0, 0, 64), 0xFEFFFFFFFFFFFFFFL);
    }

    /** The 512th call can be the one that makes the draft full. */
    private static void writeUpToFull() {
        Checks.about("4: there may be 4096");
        DotSheet x = new DotSheet();
        for (int i = 1; i <= 512; i++) {
            Checks.due("call " + i, x.write(8, -1), 8 * i);
        }
        DotSheet y = new DotSheet();
        for (int i = 1; i <= 510; i++) {
            y.write(8, i);
        }
        Checks.due("4087", y.write(7, 0), 4087);
        Checks.due("wiped", y.wipe(), 4087);
    }

    /** Only here are there more than 512 calls, as no draft can have too many bytes before. */
    private static void writeBeyondFull() {
        Checks.about("4: NONE when there would be more than 4096; a call that answers NONE changes nothing");
        DotSheet x = new DotSheet();
        for (int i = 1; i <= 511; i++) {
            x.write(8, -1);
        }
        Checks.due("4093", x.write(5, -1), 4093);
        Checks.due("4097", x.write(4, 0), DotSheet.NONE);
        Checks.due("4101", x.write(8, 0), DotSheet.NONE);
        Checks.due("4096", x.write(3, -1), 4096);
        for (int n = 1; n <= 8; n++) {
            Checks.due(n + " behind 4096", x.write(n, 0), DotSheet.NONE);
        }
        x.sheet(1024, 32);
        Checks.due("all bits are as they were", x.picture(0, 0, 1024), 32768);
        Checks.due("4096 stay", x.wipe(), 4096);
        Checks.due("an empty one takes bytes again", x.write(8, 0), 8);
    }

    private static void wipeEmptyAndNot() {
        Checks.about("5: The draft is empty then. Answers how many bytes it had");
        DotSheet x = new DotSheet();
        Checks.due("of a new object", x.wipe(), 0);
        x.write(8, -1);
        x.write(1, -1);
        Checks.due("had 9", x.wipe(), 9);
        Checks.due("nothing left", x.wipe(), 0);
        Checks.due("no text", x.text(0, 0, 0, 0x11, 0), 0);
        Checks.due("no bars", x.bars(0, 0, 9, 1, 0), 0);
        Checks.due("no picture", x.picture(0, 0, 8), 0);
        Checks.state("no square", () -> x.square(0, 0, 1, 1, 0));
        Checks.due("from the start", x.write(1, 0), 1);
        Checks.due("the old bytes are gone", x.picture(0, 0, 8), 0);
        Checks.state("behind it, too", () -> x.picture(0, 0, 9));
    }

    private static void fontRange() {
        Checks.about("9: IllegalArgumentException: font is not 0 .. 3, w or h not 1 .. 32, or gap not 0 .. 32");
        Checks.range("font", 0, 3, (x, v) -> x.font(v, 8, 8, 0));
        Checks.range("w", 1, 32, (x, v) -> x.font(0, v, 8, 0));
        Checks.range("h", 1, 32, (x, v) -> x.font(0, 8, v, 0));
        Checks.range("gap", 0, 32, (x, v) -> x.font(0, 8, 8, v));
    }

    private static void fontWithoutDarkDots() {
        Checks.about("9: A font has other cells, all without dark dots, and another gap");
        DotSheet x = new DotSheet();
        x.font(0, 32, 32, 32);
        for (int r = 0; r < 32; r++) {
            x.cell(0, 0, r, -1);
            x.cell(0, 255, r, -1);
        }
        x.write(2, 0xFF00);
        x.sheet(128, 32);
        Checks.due("all dark", x.text(0, 0, 0, 0x11, 0), 2048);
        x.font(0, 32, 32, 32);
        Checks.due("none dark, though of the same size", x.text(0, 0, 0, 0x11, 0), 0);
        x.cell(0, 0, 31, 1);
        x.font(0, 1, 1, 0);
        Checks.due("none dark in small ones", x.text(0, 0, 0, 0x11, 0), 0);
        x.font(0, 32, 32, 0);
        Checks.due("none dark in great ones again", x.text(0, 0, 0, 0x11, 0), 0);
        x.font(0, 2, 1, 3);
        x.cell(0, 0, 0, 3);
        x.cell(0, 255, 0, 3);
        x.sheet(128, 32);
        Checks.due("other cells", x.text(0, 0, 0, 0x11, 0), 4);
        Checks.rows(x, 0, 0, "##...##.", "........");
    }

    private static void fontAlone() {
        Checks.about("9: the other fonts stay");
        DotSheet x = new DotSheet();
        x.write(1, 7);
        for (int f = 0; f <= 3; f++) {
            x.cell(f, 7, f, 1);
        }
        x.font(1, 3, 3, 3);
        for (int f = 0; f <= 3; f++) {
            Checks.due("font " + f, x.text(0, 0, f, 0x11, 0), f == 1 ? 0 : 1);
        }
        Checks.due("dots", x.count(7, 0, 1, 4), 3);
    }

    private static void cellRange() {
        Checks.about("10: IllegalArgumentException: font is not 0 .. 3, or code not 0 .. 255");
        Checks.range("font", 0, 3, (x, v) -> x.cell(v, 7, 0, 1));
        Checks.range("code", 0, 255, (x, v) -> x.cell(0, v, 0, 1));
    }

    private static void cellRows() {
        Checks.about("10: IndexOutOfBoundsException: its cells have no row r");
        for (int height : new int[] {1, 8, 31, 32}) {
            DotSheet x = new DotSheet();
            x.font(1, 8, height, 0);
            x.cell(1, 255, 0, 1);
            x.cell(1, 255, height - 1, 1);
            Checks.index("row -1 of " + height, () -> x.cell(1, 255, -1, 1));
            Checks.index("row " + height, () -> x.cell(1, 255, height, 1));
        }
        Checks.outside("a row of a font of 2", 0, 1, NO_INDEX, (x, v) -> x.cell(0, 1, v, 7));
        Checks.outside("a row of a font of 8", 0, 7, NO_INDEX, (x, v) -> x.cell(1, 1, v, 7));
        Checks.outside("a row of a font of 32", 0, 31, NO_INDEX, (x, v) -> x.cell(2, 200, v, 7));
        Checks.outside("a row of a font of 1", 0, 0, NO_INDEX, (x, v) -> x.cell(3, 1, v, 7));
    }

    private static void cellBits() {
        Checks.about("10: Row r of a code's cell gets dots: column c is dark if bit w - 1 - c is 1");
        DotSheet x = new DotSheet();
        x.font(0, 32, 2, 0);
        x.write(1, 255);
        x.cell(0, 255, 0, 0x80000001);
        x.cell(0, 255, 1, 0x40000002);
        Checks.due("32 wide", x.text(0, 0, 0, 0x11, 0), 4);
        Checks.due("its first row", x.dots(0, 0, 33), 0x100000002L);
        Checks.due("its second row", x.dots(0, 1, 33), 0x080000004L);
        x.cell(0, 255, 0, 0);
        Checks.due("a row without dots", x.text(0, 0, 0, 0x11, 0), 2);
        x.sheet(64, 64);
        x.font(0, 1, 2, 1);
        x.cell(0, 255, 0, -2);
        x.cell(0, 255, 1, 1);
        Checks.due("1 wide: bit 0 alone", x.text(0, 0, 0, 0x11, 0), 1);
        Checks.rows(x, 0, 0, "...", "#..", "...");
        x.sheet(64, 64);
        x.font(0, 5, 1, 0);
        x.cell(0, 255, 0, 0b1100101);
        Checks.due("bits above w are none of it", x.text(1, 0, 0, 0x11, 0), 2);
        Checks.rows(x, 0, 0, "...#.#.");
    }

    private static void textRange() {
        Checks.about("11: IllegalArgumentException, too: font is not 0 .. 3");
        Checks.range("font", 0, 3, (x, v) -> x.text(0, 0, v, 0x11, 0));
    }

    private static void textScales() {
        Checks.about("11: IllegalArgumentException, too: p or q not 1 .. 10, or scales above 255 or below 0");
        for (int scales = -300; scales <= 600; scales++) {
            int p = scales / 16;
            int q = scales % 16;
            int given = scales;
            if (scales >= 0 && scales <= 255 && p >= 1 && p <= 10 && q >= 1 && q <= 10) {
                DotSheet x = new DotSheet();
                x.cell(0, 0, 0, 0x80);
                x.write(1, 0);
                Checks.due("scales " + p + " and " + q, x.text(0, 0, 0, scales, 0), p * q);
                Checks.due("p " + p, x.run(0, 0, 0, false), p);
                Checks.due("q " + q, x.run(0, 0, 0, true), q);
            } else {
                Checks.refused("scales " + scales, ILLEGAL, x -> x.text(0, 0, 0, given, 0));
            }
        }
        Checks.refused("scales that wrap", ILLEGAL, x -> x.text(0, 0, 0, Integer.MIN_VALUE + 0x11, 0));
        Checks.refused("the greatest scales", ILLEGAL, x -> x.text(0, 0, 0, Integer.MAX_VALUE, 0));
        Checks.refused("scales above 16 bits", ILLEGAL, x -> x.text(0, 0, 0, 0x10011, 0));
    }

    private static void barsRange() {
        Checks.about("12: IllegalArgumentException, too: module is not 1 .. 50");
        Checks.range("module", 1, 50, (x, v) -> x.bars(0, 0, 9, v, 0));
        DotSheet x = new DotSheet();
        x.write(1, 1);
        Checks.due("module 1", x.bars(0, 0, 1, 1, 0), 1);
        Checks.due("module 50", x.bars(0, 0, 1, 50, 0), 50);
    }

    private static void squareRange() {
        Checks.about("13: IllegalArgumentException, too: n is not 1 .. 177, or module not 1 .. 50");
        Checks.outside("n", 1, 177, ILLEGAL, (x, v) -> x.square(0, 0, v, 1, 0));
        Checks.allowed("n 1", x -> x.square(0, 0, 1, 1, 0));
        Checks.refused("n whose square wraps to 0", ILLEGAL, x -> x.square(0, 0, 65536, 1, 0));
        Checks.range("module", 1, 50, (x, v) -> x.square(0, 0, 4, v, 0));
        DotSheet x = new DotSheet();
        x.write(1, 0x80);
        Checks.due("module 1", x.square(0, 0, 1, 1, 0), 1);
        Checks.due("module 50", x.square(0, 0, 1, 50, 0), 2500);
    }

    private static void squareBitsItTakes() {
        Checks.about("13: IllegalStateException: the draft has fewer bits than it takes");
        for (int n = 1; n <= 30; n++) {
            DotSheet x = new DotSheet();
            int side = n;
            int takes = (n * n + 7) / 8;
            Checks.state("an empty draft", () -> x.square(0, 0, side, 1, 0));
            for (int bytes = 1; bytes < takes; bytes++) {
                x.write(1, 255);
            }
            Checks.state(takes - 1 + " bytes for " + n, () -> x.square(0, 0, side, 1, 0));
            x.write(1, 255);
            Checks.due(takes + " bytes for " + n, x.square(0, 0, n, 1, 0), n * n);
            x.write(1, 255);
            Checks.due("more bytes for " + n, x.square(0, 0, n, 1, 0), n * n);
        }
        Checks.refused("16 bits for 25", NO_STATE, x -> x.square(0, 0, 5, 1, 0));
        Checks.refused("16 bits for 31329", NO_STATE, x -> x.square(4096, -4096, 177, 50, 3));
    }

    private static void squareGreatest() {
        Checks.about("13: n up to 177, one bit too few and just enough");
        DotSheet x = new DotSheet();
        x.sheet(1024, 1024);
        for (int i = 0; i < 489; i++) {
            x.write(8, -1);
        }
        x.write(4, -1);
        Checks.state("31328 bits for 31329", () -> x.square(0, 0, 177, 1, 0));
        Checks.due("31328 bits for 30976", x.square(0, 0, 176, 1, 0), 30976);
        x.write(1, 0x80);
        x.sheet(1024, 1024);
        Checks.due("31336 bits for 31329", x.square(0, 0, 177, 1, 0), 31329);
        Checks.due("its right edge", x.told(4), 176);
        Checks.due("its lower edge", x.told(5), 176);
        Checks.due("4071 dots from -4096 on", x.square(-4096, -4096, 177, 23, 0), 0);
        Checks.due("4248 dots from -4096 on", x.square(-4096, -4096, 177, 24, 0), 152 * 152);
        Checks.due("8850 dots back from 4096", x.square(4096, 4096, 177, 50, 2), 1024 * 1024);
    }

    private static void pictureRowsNotWhole() {
        Checks.about("14: IllegalStateException: its last row is not whole");
        for (int bytes = 1; bytes <= 12; bytes++) {
            DotSheet x = new DotSheet();
            for (int i = 0; i < bytes; i++) {
                x.write(1, 255);
            }
            for (int w = 1; w <= 100; w++) {
                int width = w;
                int rowBytes = (w + 7) / 8;
                if (bytes % rowBytes == 0) {
                    Checks.due(bytes + " bytes, w " + w, x.picture(-36, 0, w), Math.max(w - 36, 0) * (bytes / rowBytes));
                } else {
                    Checks.state(bytes + " bytes, w " + w, () -> x.picture(0, 0, width));
                }
            }
        }
        Checks.refused("2 bytes, 3 to a row", NO_STATE, x -> x.picture(0, 0, 17));
        Checks.refused("2 bytes, 256 to a row", NO_STATE, x -> x.picture(0, 0, 2048));
        Checks.refused("though it lies off the sheet", NO_STATE, x -> x.picture(4096, 4096, 24));
    }

    private static void pictureRows() {
        Checks.about("14: Draws a picture, with as many rows as the draft has");
        DotSheet x = new DotSheet();
        for (int w : new int[] {1, 8, 9, 2048}) {
            Checks.due("no rows, w " + w, x.picture(0, 0, w), 0);
        }
        for (int i = 0; i < 32; i++) {
            x.write(8, -1);
        }
        x.sheet(1024, 1024);
        Checks.due("one row of 2048", x.picture(-4, 9, 2048), 1024);
        Checks.due("in one row", x.told(3) * 10 + x.told(5), 99);
        Checks.due("its last dot", x.picture(-2047, 0, 2048), 1);
        Checks.due("its last dot is off", x.picture(-2048, 0, 2048), 0);
        Checks.due("one row of 2041", x.picture(-2040, 0, 2041), 1);
        Checks.state("two rows are not whole", () -> x.picture(0, 0, 1030));
        Checks.due("256 rows", x.picture(1023, 1023 - 255, 1), 256);
        Checks.due("255 of them", x.picture(1023, -1, 1), 255);
    }

    private static void turnPlaces() {
        Checks.about("15: with one, its dot (px, py) comes to (height - 1 - py, px), and width and height change places");
        int[][] sizes = {{1, 1}, {5, 3}, {64, 64}, {65, 63}, {63, 130}, {100, 7}, {1024, 1024}, {1024, 3}, {1000, 999}};
        for (int[] size : sizes) {
            int[][] dots = {{0, 0}, {size[0] - 1, 0}, {0, size[1] - 1}, {size[0] - 1, size[1] - 1}, {size[0] / 2, size[1] / 3}};
            for (int[] dot : dots) {
                for (int quarter = 0; quarter <= 3; quarter++) {
                    turnedDot(size[0], size[1], dot[0], dot[1], quarter);
                }
            }
        }
    }

    private static void turnedDot(int width, int height, int px, int py, int quarter) {
        DotSheet x = new DotSheet();
        x.sheet(width, height);
        x.frame(px, py, 1, 1, 1);
        x.turn(quarter);
        int[] dueX = {px, height - 1 - py, width - 1 - px, py};
        int[] dueY = {py, px, height - 1 - py, width - 1 - px};
        String what = width + " by " + height + ", " + px + " " + py + ", quarter " + quarter + ": ";
        Checks.due(what + "width", x.told(0), quarter % 2 == 0 ? width : height);
        Checks.due(what + "height", x.told(1), quarter % 2 == 0 ? height : width);
        Checks.due(what + "one dot", x.told(6), 1);
        Checks.due(what + "x", x.told(2), dueX[quarter]);
        Checks.due(what + "y", x.told(3), dueY[quarter]);
        x.turn((4 - quarter) % 4);
        Checks.due(what + "back", x.dots(px, py, 1), 1);
        for (int i = 0; i < 4; i++) {
            x.turn(1);
        }
        Checks.due(what + "round", x.dots(px, py, 1) + x.told(6), 2);
    }

    private static void turnOfNarrowSheets() {
        Checks.about("15: The whole sheet is turned, and what is drawn then lies on the turned one");
        DotSheet x = new DotSheet();
        x.sheet(1024, 1);
        x.write(1, 255);
        x.bars(1, 0, 1, 4, 0);
        x.turn(1);
        Checks.due("one light dot above", x.run(0, 0, 0, true), 1);
        Checks.due("1020 dark ones", x.run(0, 0, 1, true), 1020);
        Checks.due("3 light ones", x.run(0, 0, 2, true), 3);
        Checks.index("1 wide", () -> x.run(1, 0, 0, false));
        Checks.due("drawn down", x.bars(0, 0, 1, 50, 1), 1024);
        x.turn(3);
        Checks.due("all dark", x.run(0, 0, 0, false), 1024);
        Checks.index("1 high", () -> x.run(0, 1, 0, false));
        Checks.due("nothing behind", x.dots(1020, 0, 8), 0xF0);
    }

    /** What lay on greater sheets must not come back with a turn of a smaller one. */
    private static void turnOfSmallerSheets() {
        Checks.about("15: its dot (px, py) comes to (height - 1 - py, px), and no other dot comes");
        DotSheet x = new DotSheet();
        x.write(1, 255);
        x.sheet(1024, 1024);
        x.bars(0, 0, 1024, 50, 0);
        x.turn(1);
        x.sheet(70, 3);
        x.frame(0, 0, 1, 1, 1);
        for (int quarter = 1; quarter <= 3; quarter++) {
            x.turn(quarter);
            Checks.due("one dot", x.told(6), 1);
            Checks.due("its x", x.told(4), x.told(2));
            Checks.due("its y", x.told(5), x.told(3));
        }
        Checks.due("half turned in all", x.dots(69, 2, 1), 1);
    }

    private static void turnAlone() {
        Checks.about("15: the way, the draft and the fonts stay");
        DotSheet x = new DotSheet();
        x.way(2);
        x.write(1, 5);
        x.cell(3, 5, 0, 0x80);
        x.turn(1);
        Checks.due("the font", x.text(0, 0, 3, 0x11, 0), 1);
        Checks.due("the way", x.way(0), 2);
        Checks.due("the draft", x.wipe(), 1);
    }

    private static void toldRange() {
        Checks.about("16: IllegalArgumentException: another what");
        Checks.range("what", 0, 6, (x, v) -> x.told(v));
    }

    private static void toldOfNone() {
        Checks.about("16: NONE when there is none; how many there are");
        int[][] sizes = {{1, 1}, {64, 64}, {1024, 1024}};
        for (int[] size : sizes) {
            DotSheet x = new DotSheet();
            x.sheet(size[0], size[1]);
            x.frame(0, 0, 1, 1, 1);
            x.way(1);
            x.frame(0, 0, 1, 1, 1);
            for (int what = 2; what <= 5; what++) {
                Checks.due("told " + what, x.told(what), DotSheet.NONE);
            }
            Checks.due("how many", x.told(6), 0);
        }
    }

    private static void toldOfEdges() {
        Checks.about("16: of all dark dots the least x, the least y, the greatest x, the greatest y");
        int[] places = {0, 1, 62, 63, 64, 65, 127, 128, 1022, 1023};
        for (int px : places) {
            for (int py : places) {
                DotSheet x = new DotSheet();
                x.sheet(1024, 1024);
                x.frame(px, py, 1, 1, 1);
                int[] alone = {px, py, px, py, 1};
                int[] withMiddle = {Math.min(px, 500), Math.min(py, 600), Math.max(px, 500), Math.max(py, 600), 2};
                for (int what = 2; what <= 6; what++) {
                    Checks.due("told " + what + " of " + px + " " + py, x.told(what), alone[what - 2]);
                }
                x.frame(500, 600, 1, 1, 1);
                for (int what = 2; what <= 6; what++) {
                    Checks.due("told " + what + " of two", x.told(what), withMiddle[what - 2]);
                }
            }
        }
        DotSheet x = new DotSheet();
        x.sheet(1024, 1024);
        x.write(1, 255);
        x.bars(0, 0, 1024, 50, 0);
        int[] full = {0, 0, 1023, 1023, 1024 * 1024};
        for (int what = 2; what <= 6; what++) {
            Checks.due("told " + what + " of a full sheet", x.told(what), full[what - 2]);
        }
    }

    private static void countAsFarAsOnTheSheet() {
        Checks.about("17: from x to x + w - 1 and from y to y + h - 1, as far as they lie on the sheet");
        DotSheet x = new DotSheet();
        x.sheet(100, 80);
        x.write(1, 255);
        x.bars(0, 0, 80, 1, 0);
        Checks.due("all", x.count(0, 0, 100, 80), 8000);
        Checks.due("more than all", x.count(-900, -900, 2048, 2048), 8000);
        Checks.due("one dot", x.count(64, 40, 1, 1), 1);
        Checks.due("a row", x.count(-5, 79, 2048, 1), 100);
        Checks.due("a column", x.count(99, -5, 1, 2048), 80);
        Checks.due("its last column", x.count(-2047, 0, 2048, 80), 80);
        Checks.due("just left of it", x.count(-2048, 0, 2048, 80), 0);
        Checks.due("its last row", x.count(0, -2047, 100, 2048), 100);
        Checks.due("just above it", x.count(0, -2048, 100, 2048), 0);
        Checks.due("its last dot", x.count(99, 79, 2048, 2048), 1);
        Checks.due("just right of it", x.count(100, 0, 2048, 2048), 0);
        Checks.due("just below it", x.count(0, 80, 2048, 2048), 0);
        Checks.due("far", x.count(-4096, -4096, 2048, 2048) + x.count(4096, 4096, 2048, 2048), 0);
        x.way(1);
        x.frame(0, 0, 100, 80, 1);
        Checks.due("dark ones alone", x.count(0, 0, 100, 80), 98 * 78);
        for (int w = 1; w <= 100; w++) {
            Checks.due("w " + w, x.count(0, 1, w, 1), Math.min(Math.max(w - 1, 0), 98));
            Checks.due("x " + (100 - w), x.count(100 - w, 1, w, 1), Math.min(Math.max(w - 1, 0), 98));
        }
    }

    private static void countOfTheGreatestSheet() {
        Checks.about("17: as far as they lie on the sheet, when it is as great as it can be");
        DotSheet x = new DotSheet();
        x.sheet(1024, 1024);
        x.write(1, 255);
        x.bars(0, 0, 1024, 50, 0);
        Checks.due("all", x.count(0, 0, 1024, 1024), 1024 * 1024);
        Checks.due("more than all", x.count(-1, -1, 2048, 2048), 1024 * 1024);
        Checks.due("over the right edge", x.count(1023, 5, 2, 1), 1);
        Checks.due("far over the right edge", x.count(1023, 5, 2048, 7), 7);
        Checks.due("over the lower edge", x.count(5, 1023, 1, 2), 1);
        Checks.due("far over the lower edge", x.count(5, 1023, 7, 2048), 7);
        Checks.due("over the left edge", x.count(-1, 5, 2, 1), 1);
        Checks.due("over the upper edge", x.count(5, -1, 1, 2), 1);
        Checks.due("right of it", x.count(1024, 0, 64, 1024), 0);
        Checks.due("below it", x.count(0, 1024, 1024, 64), 0);
    }

    private static void dotsRange() {
        Checks.about("18: IllegalArgumentException, too: many is not 1 .. 64");
        Checks.range("many", 1, 64, (x, v) -> x.dots(0, 0, v));
    }

    private static void dotsNotOnTheSheet() {
        Checks.about("18: 0 for light ones and those that lie not on the sheet");
        DotSheet x = new DotSheet();
        x.sheet(70, 3);
        x.write(1, 70);
        x.bars(0, 0, 3, 1, 0);
        Checks.due("within", x.dots(3, 2, 64), -1L);
        Checks.due("one before it", x.dots(-1, 0, 64), Long.MAX_VALUE);
        Checks.due("63 before it", x.dots(-63, 1, 64), 1);
        Checks.due("64 before it", x.dots(-64, 1, 64), 0);
        Checks.due("one behind it", x.dots(7, 1, 64), -2L);
        Checks.due("63 behind it", x.dots(69, 1, 64), Long.MIN_VALUE);
        Checks.due("64 behind it", x.dots(70, 1, 64), 0);
        Checks.due("above", x.dots(3, -1, 64), 0);
        Checks.due("below", x.dots(3, 3, 64), 0);
        Checks.due("far", x.dots(-4096, 1, 64) | x.dots(4096, 1, 64) | x.dots(0, -4096, 64) | x.dots(0, 4096, 64), 0);
        x.sheet(1, 1);
        x.frame(0, 0, 1, 1, 1);
        Checks.due("a sheet of one dot", x.dots(-3, 0, 8), 0b00010000);
    }

    private static void dotsFirstAsHighest() {
        Checks.about("18: The dots from (x, y) to the right, so many, as bits, the first one as the highest");
        DotSheet x = new DotSheet();
        x.sheet(200, 2);
        x.frame(100, 1, 1, 1, 1);
        x.frame(163, 1, 1, 1, 1);
        for (int many = 1; many <= 64; many++) {
            long due = 1L << many - 1 | (many == 64 ? 1 : 0);
            Checks.due(many + " dots", x.dots(100, 1, many), due);
            Checks.due(many + " dots up to it", x.dots(101 - many, 1, many), 1);
        }
        Checks.due("not the row above", x.dots(100, 0, 64), 0);
    }

    private static void runNotOnTheSheet() {
        Checks.about("19: IndexOutOfBoundsException: (x, y) lies not on the sheet");
        int[] offX = {-4096, -1, Prepared.WIDTH, 4096};
        int[] offY = {-4096, -1, Prepared.HEIGHT, 4096};
        for (int off : offX) {
            Checks.refused("x " + off, NO_INDEX, x -> x.run(off, 0, 0, false));
            Checks.refused("x " + off + " down", NO_INDEX, x -> x.run(off, Prepared.HEIGHT - 1, 0, true));
        }
        for (int off : offY) {
            Checks.refused("y " + off, NO_INDEX, x -> x.run(0, off, 0, false));
            Checks.refused("y " + off + " down", NO_INDEX, x -> x.run(Prepared.WIDTH - 1, off, 0, true));
        }
        Checks.refused("though there is no such run", NO_INDEX, x -> x.run(-1, 0, -1, false));
        DotSheet x = Prepared.make();
        x.run(Prepared.WIDTH - 1, Prepared.HEIGHT - 1, 0, false);
        x.turn(1);
        x.run(Prepared.HEIGHT - 1, Prepared.WIDTH - 1, 0, false);
        Checks.index("the width of a turned sheet", () -> x.run(Prepared.HEIGHT, 0, 0, false));
        Checks.index("its height", () -> x.run(0, Prepared.WIDTH, 0, false));
    }

    private static void runToTheEdge() {
        Checks.about("19: to the edge: runs of dots that are alike, each as long as it can be, from 0, that of the dot itself");
        DotSheet x = new DotSheet();
        x.sheet(130, 70);
        Checks.due("one light run", x.run(0, 0, 0, false), 130);
        Checks.due("down", x.run(0, 0, 0, true), 70);
        Checks.due("the last dot", x.run(129, 69, 0, false), 1);
        Checks.due("the last dot, down", x.run(129, 69, 0, true), 1);
        x.frame(60, 0, 10, 1, 1);
        x.frame(129, 0, 1, 1, 1);
        int[] right = {60, 10, 59, 1, DotSheet.NONE};
        for (int i = 0; i < right.length; i++) {
            Checks.due("run " + i, x.run(0, 0, i, false), right[i]);
        }
        Checks.due("from within a dark run", x.run(65, 0, 0, false), 5);
        Checks.due("and on", x.run(65, 0, 1, false), 59);
        Checks.due("the last of a run", x.run(69, 0, 0, false), 1);
        Checks.due("down from a dark dot", x.run(65, 0, 0, true), 1);
        Checks.due("and on down", x.run(65, 0, 1, true), 69);
        Checks.due("the edge is no run", x.run(129, 0, 1, false), DotSheet.NONE);
        x.frame(5, 63, 1, 3, 1);
        x.frame(5, 69, 1, 1, 1);
        int[] down = {63, 3, 3, 1, DotSheet.NONE};
        for (int i = 0; i < down.length; i++) {
            Checks.due("run down " + i, x.run(5, 0, i, true), down[i]);
        }
        x.sheet(1024, 1024);
        Checks.due("the longest", x.run(0, 1023, 0, false), 1024);
        Checks.due("the longest down", x.run(1023, 0, 0, true), 1024);
    }

    private static void runOfNone() {
        Checks.about("19: NONE when there is none");
        DotSheet x = new DotSheet();
        int[] none = {1, 2, -1, Integer.MAX_VALUE, Integer.MIN_VALUE};
        for (int i : none) {
            Checks.due("run " + i, x.run(0, 0, i, false), DotSheet.NONE);
            Checks.due("run down " + i, x.run(63, 63, i, true), DotSheet.NONE);
        }
        x.sheet(1024, 1);
        x.write(2, 0x0101);
        for (int i = 0; i < 7; i++) {
            x.write(8, 0x0101010101010101L);
        }
        x.bars(0, 0, 1, 1, 0);
        Checks.due("the last bar", x.run(0, 0, 56, false), 1);
        Checks.due("the light dots behind it, to the edge", x.run(0, 0, 57, false), 1024 - 57);
        Checks.due("none behind it", x.run(0, 0, 58, false), DotSheet.NONE);
    }
}
