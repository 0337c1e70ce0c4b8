/** For each promise: ordinary inputs, some edges and some wrong inputs, told by pictures where it helps. */
public final class PromiseTest {
    public static void main(String[] args) {
        newObject();
        sheet();
        way();
        write();
        wipe();
        frame();
        line();
        lineThroughExactEdges();
        ellipse();
        font();
        cell();
        text();
        textFarOff();
        textAtEdges();
        bars();
        barsOfLongDraft();
        square();
        picture();
        turn();
        told();
        count();
        dots();
        run();
        nothingChangesWhenRefused();
        longestRun();
        Checks.end();
    }

    private static void newObject() {
        Checks.about("1 A new object");
        DotSheet x = new DotSheet();
        Checks.due("width", x.told(0), 64);
        Checks.due("height", x.told(1), 64);
        Checks.due("dark dots", x.told(6), 0);
        Checks.due("empty draft", x.wipe(), 0);
        Checks.due("way", x.way(0), 0);
        for (int font = 0; font < 4; font++) {
            int f = font;
            x.cell(f, 1, 7, 0x81);
            Checks.index("cell row 8", () -> x.cell(f, 1, 8, 1));
            x.sheet(64, 64);
            x.wipe();
            x.write(2, 0x0101);
            Checks.due("two cells", x.text(0, 0, f, 0x11, 0), 4);
            Checks.due("8 wide, no gap", x.dots(0, 7, 16), 0x8181);
        }
    }

    private static void sheet() {
        Checks.about("2 sheet");
        DotSheet x = new DotSheet();
        x.way(2);
        x.frame(0, 0, 64, 64, 200);
        x.sheet(1024, 1);
        Checks.due("width", x.told(0), 1024);
        Checks.due("height", x.told(1), 1);
        Checks.due("light", x.told(6), 0);
        Checks.due("the way stays", x.way(2), 2);
        x.sheet(1, 1024);
        Checks.due("width", x.told(0), 1);
        Checks.due("height", x.told(1), 1024);
        Checks.due("all of it", x.frame(0, 0, 2048, 2048, 200), 1024);
        x.sheet(3, 2);
        Checks.due("light again", x.told(6), 0);
        int[][] bad = {{0, 1}, {1, 0}, {1025, 1}, {1, 1025}, {-1, 1}, {Integer.MIN_VALUE, 1}, {1, Integer.MAX_VALUE}};
        for (int[] b : bad) {
            Checks.illegal("sheet " + b[0] + " " + b[1], () -> x.sheet(b[0], b[1]));
        }
        Checks.due("the sheet stays", x.told(0) * 10 + x.told(1), 32);
    }

    private static void way() {
        Checks.about("3 way");
        DotSheet x = new DotSheet();
        Checks.due("was 0", x.way(1), 0);
        Checks.due("was 1", x.way(2), 1);
        Checks.illegal("3", () -> x.way(3));
        Checks.illegal("-1", () -> x.way(-1));
        Checks.due("was 2", x.way(0), 2);
        x.frame(0, 0, 4, 1, 1);
        x.way(2);
        Checks.due("drawn", x.frame(2, 0, 4, 1, 1), 4);
        Checks.due("the other of both", x.dots(0, 0, 8), 0b11001100);
        x.way(1);
        Checks.due("drawn in light", x.frame(1, 0, 4, 1, 1), 4);
        Checks.due("light", x.dots(0, 0, 8), 0b10000100);
        x.way(0);
        Checks.due("drawn on dark", x.frame(0, 0, 2, 1, 1), 2);
        Checks.due("dark", x.dots(0, 0, 8), 0b11000100);
    }

    private static void write() {
        Checks.about("4 write");
        DotSheet x = new DotSheet();
        Checks.due("2 of 3 bytes", x.write(2, 0x11F00FL), 2);
        Checks.due("8 bytes", x.write(8, 0x8877665544332211L), 10);
        x.picture(0, 0, 64 + 16);
        Checks.due("lowest first", x.dots(0, 0, 64), 0x0FF0112233445566L);
        Checks.due("lowest first, to the end", x.dots(16, 0, 64), 0x112233445566L << 16);
        Checks.illegal("0 bytes", () -> x.write(0, 1));
        Checks.illegal("9 bytes", () -> x.write(9, 1));
        Checks.illegal("-1 bytes", () -> x.write(-1, 1));
    }

    private static void wipe() {
        Checks.about("5 wipe");
        DotSheet x = new DotSheet();
        x.write(3, 0xFFFFFF);
        Checks.due("had 3", x.wipe(), 3);
        Checks.due("had none", x.wipe(), 0);
        Checks.due("nothing to draw", x.picture(0, 0, 8), 0);
        Checks.due("from the start", x.write(1, 0x55), 1);
        x.picture(0, 0, 8);
        Checks.due("the new byte alone", x.dots(0, 0, 16), 0x5500);
    }

    private static void frame() {
        Checks.about("6 frame");
        DotSheet x = new DotSheet();
        Checks.due("5 by 4", x.frame(1, 1, 5, 4, 1), 14);
        Checks.rows(x, 0, 0, "........", ".#####..", ".#...#..", ".#...#..", ".#####..", "........");
        x.sheet(64, 64);
        Checks.due("hole of one", x.frame(0, 0, 5, 5, 2), 24);
        Checks.rows(x, 0, 0, "#####...", "#####...", "##.##...", "#####...", "#####...");
        Checks.due("no hole", x.frame(10, 10, 5, 5, 3), 25);
        Checks.due("no hole, one side", x.frame(20, 10, 9, 4, 2), 36);
        Checks.due("the other side", x.frame(30, 10, 4, 9, 2), 36);
        Checks.due("one dot", x.frame(63, 63, 1, 1, 200), 1);
        Checks.due("off to the left", x.frame(-2, 0, 4, 4, 1), 6);
        Checks.due("wholly off", x.frame(-4096, 4096, 2048, 2048, 200), 0);
        Checks.due("the sheet in the hole", x.frame(-200, -200, 464, 464, 200), 0);
        Checks.due("and one off it", x.frame(-200, -200, 463, 464, 200), 64);
        Checks.illegal("t 0", () -> x.frame(0, 0, 1, 1, 0));
        Checks.illegal("t 201", () -> x.frame(0, 0, 1, 1, 201));
    }

    private static void line() {
        Checks.about("7 line");
        DotSheet x = new DotSheet();
        Checks.due("one dot", x.line(3, 3, 3, 3, 1), 1);
        Checks.due("two thick: a cross", x.line(10, 10, 10, 10, 2), 5);
        Checks.due("three thick: a square", x.line(20, 20, 20, 20, 3), 9);
        x.sheet(12, 8);
        Checks.due("level", x.line(2, 2, 5, 2, 1), 4);
        Checks.due("level, with ends", x.line(2, 5, 5, 5, 2), 4 * 3 + 2);
        Checks.rows(x, 0, 0, "........", "........", "..####..", "........", "..####..", ".######.", "..####..", "........");
        x.sheet(12, 12);
        Checks.due("slanting, 1: the middles alone", x.line(1, 1, 4, 4, 1), 4);
        x.sheet(12, 12);
        Checks.due("slanting, 2: root of 1/2 is within", x.line(1, 1, 4, 4, 2), 4 + 2 * 3 + 4);
        Checks.rows(x, 0, 0, ".#......", "###.....", ".###....", "..###...", "...###..", "....#...");
        x.sheet(64, 64);
        Checks.due("steep by two", x.line(5, 5, 7, 9, 1), x.line(7, 9, 5, 5, 1));
        Checks.rows(x, 0, 5, ".....#..", ".....##.", "......#.", "......##", ".......#");
        Checks.due("far off", x.line(-4096, -4096, 4096, -4096, 200), 0);
        Checks.due("from corner to corner", x.line(-4096, -4096, 4096, 4096, 1), 64);
        Checks.due("and the other one", x.line(4096, -4096, -4096, 4096, 2), 3);
        int[][] bad = {{4097, 0, 0, 0, 1}, {0, -4097, 0, 0, 1}, {0, 0, 4097, 0, 1}, {0, 0, 0, -4097, 1},
            {0, 0, 0, 0, 0}, {0, 0, 0, 0, 201}, {Integer.MIN_VALUE, 0, 0, 0, 1}, {0, 0, 0, 0, Integer.MIN_VALUE}};
        for (int[] b : bad) {
            Checks.illegal("line " + b[0] + " " + b[1] + " " + b[2] + " " + b[3] + " " + b[4],
                    () -> x.line(b[0], b[1], b[2], b[3], b[4]));
        }
    }

    /** Every line of a small sheet, dot by dot, so that those on the very edge are tested too. */
    private static void lineThroughExactEdges() {
        Checks.about("7 line");
        for (int t = 1; t <= 15; t++) {
            for (int c = -12; c <= 12; c++) {
                for (int d = -12; d <= 12; d++) {
                    DotSheet x = new DotSheet();
                    x.sheet(50, 50);
                    int drawn = x.line(25, 25, 25 + c, 25 + d, t);
                    int many = 0;
                    for (int y = 0; y < 50; y++) {
                        long due = 0;
                        for (int px = 0; px < 50; px++) {
                            due = due << 1 | (isNear(px - 25, y - 25, c, d, t) ? 1 : 0);
                        }
                        many += Long.bitCount(due);
                        Checks.due("to " + c + " " + d + " t " + t + " row " + y, x.dots(0, y, 50), due);
                    }
                    Checks.due("to " + c + " " + d + " t " + t, drawn, many);
                }
            }
        }
    }

    private static boolean isNear(int px, int py, int dx, int dy, int t) {
        int length = dx * dx + dy * dy;
        int along = px * dx + py * dy;
        if (along > 0 && along < length) {
            int cross = px * dy - py * dx;
            return 4 * cross * cross <= t * t * length;
        }
        int endX = along <= 0 ? px : px - dx;
        int endY = along <= 0 ? py : py - dy;
        return 4 * (endX * endX + endY * endY) <= t * t;
    }

    private static void ellipse() {
        Checks.about("8 ellipse");
        DotSheet x = new DotSheet();
        Checks.due("one dot", x.ellipse(0, 0, 1, 1, 1), 1);
        x.sheet(64, 64);
        Checks.due("5 by 5", x.ellipse(0, 0, 5, 5, 1), 12);
        Checks.rows(x, 0, 0, ".###....", "#...#...", "#...#...", "#...#...", ".###....");
        x.sheet(64, 64);
        Checks.due("8 by 4, whole", x.ellipse(0, 0, 8, 4, 2), 6 + 8 + 8 + 6);
        Checks.rows(x, 0, 0, ".######.", "########", "########", ".######.");
        x.sheet(64, 64);
        Checks.due("8 by 5, with a hole of 4 by 1", x.ellipse(0, 0, 8, 5, 2), 4 + 8 + 4 + 8 + 4);
        Checks.rows(x, 0, 0, "..####..", "########", "##....##", "########", "..####..");
        x.sheet(64, 64);
        Checks.due("8 by 5, whole", x.ellipse(0, 0, 8, 5, 3), 32);
        Checks.due("off to the left", x.ellipse(-1, 20, 3, 3, 2), 6);
        Checks.due("wholly off", x.ellipse(4096, -4096, 2048, 2048, 1), 0);
        Checks.due("the sheet in the hole", x.ellipse(-500, -500, 1064, 1064, 200), 0);
        Checks.illegal("t 0", () -> x.ellipse(0, 0, 1, 1, 0));
        Checks.illegal("t 201", () -> x.ellipse(0, 0, 1, 1, 201));
    }

    private static void font() {
        Checks.about("9 font");
        DotSheet x = new DotSheet();
        x.font(3, 3, 2, 1);
        x.cell(3, 255, 1, 0b101);
        x.font(2, 32, 32, 32);
        x.cell(2, 0, 31, 0x80000001);
        x.write(2, 0xFFFF);
        Checks.due("two cells", x.text(0, 0, 3, 0x11, 0), 4);
        Checks.due("3 wide, 1 between", x.dots(0, 1, 8), 0b10101010);
        x.wipe();
        x.write(2, 0);
        x.sheet(128, 64);
        Checks.due("32 wide", x.text(0, 0, 2, 0x11, 0), 4);
        Checks.due("32 between", x.dots(0, 31, 64), 0x8000000100000000L);
        Checks.due("and the next", x.dots(64, 31, 64), 0x8000000100000000L);
        x.font(2, 32, 32, 0);
        Checks.due("all without dark dots", x.text(0, 0, 2, 0x11, 0), 0);
        Checks.illegal("font -1", () -> x.font(-1, 8, 8, 0));
        Checks.illegal("font 4", () -> x.font(4, 8, 8, 0));
        Checks.illegal("w 0", () -> x.font(0, 0, 8, 0));
        Checks.illegal("w 33", () -> x.font(0, 33, 8, 0));
        Checks.illegal("h 0", () -> x.font(0, 8, 0, 0));
        Checks.illegal("h 33", () -> x.font(0, 8, 33, 0));
        Checks.illegal("gap -1", () -> x.font(0, 8, 8, -1));
        Checks.illegal("gap 33", () -> x.font(0, 8, 8, 33));
    }

    private static void cell() {
        Checks.about("10 cell");
        DotSheet x = new DotSheet();
        x.font(1, 3, 4, 0);
        x.cell(1, 0, 0, 0b100);
        x.cell(1, 0, 3, -1);
        x.write(1, 0);
        Checks.due("bits above the width are none", x.text(0, 0, 1, 0x11, 0), 4);
        Checks.rows(x, 0, 0, "#.......", "........", "........", "###.....");
        x.cell(1, 0, 3, 0b010);
        Checks.due("a row is replaced", x.text(0, 10, 1, 0x11, 0), 2);
        Checks.due("other fonts are left", x.text(0, 20, 0, 0x11, 0), 0);
        Checks.index("row 4", () -> x.cell(1, 0, 4, 1));
        Checks.index("row -1", () -> x.cell(1, 255, -1, 1));
        Checks.index("row far", () -> x.cell(1, 255, Integer.MAX_VALUE, 1));
        Checks.illegal("font 4", () -> x.cell(4, 0, 0, 1));
        Checks.illegal("font -1", () -> x.cell(-1, 0, 0, 1));
        Checks.illegal("code 256", () -> x.cell(1, 256, 0, 1));
        Checks.illegal("code -1", () -> x.cell(1, -1, 0, 1));
        Checks.illegal("font first", () -> x.cell(4, 0, 99, 1));
        Checks.illegal("code first", () -> x.cell(1, 256, 99, 1));
    }

    private static void text() {
        Checks.about("11 text");
        DotSheet x = new DotSheet();
        x.font(0, 2, 2, 1);
        x.cell(0, 7, 0, 0b11);
        x.cell(0, 7, 1, 0b10);
        x.cell(0, 200, 0, 0b01);
        x.write(2, 0xC807);
        Checks.due("quarter 0", x.text(1, 1, 0, 0x11, 0), 4);
        Checks.rows(x, 0, 0, "........", ".##..#..", ".#......", "........");
        x.sheet(10, 10);
        Checks.due("twice along", x.text(0, 0, 0, 0x21, 0), 8);
        Checks.rows(x, 0, 0, "####....", "##......", "........");
        Checks.due("to the end", x.dots(0, 0, 10), 0b1111000011);
        x.sheet(10, 10);
        Checks.due("thrice across", x.text(0, 0, 0, 0x13, 0), 12);
        Checks.rows(x, 0, 0, "##..#...", "##..#...", "##..#...", "#.......", "#.......", "#.......", "........");
        x.sheet(10, 10);
        Checks.due("quarter 1", x.text(3, 1, 0, 0x11, 1), 4);
        Checks.rows(x, 0, 0, "........", "..##....", "...#....", "........", "........", "...#....", "........");
        x.sheet(10, 10);
        Checks.due("quarter 2", x.text(6, 3, 0, 0x11, 2), 4);
        Checks.rows(x, 0, 0, "........", "........", "......#.", "..#..##.", "........");
        x.sheet(10, 10);
        Checks.due("quarter 3", x.text(3, 6, 0, 0x11, 3), 4);
        Checks.rows(x, 0, 0, "........", "........", "...#....", "........", "........", "...#....", "...##...", "........");
        Checks.due("in part", x.text(-1, 0, 0, 0x11, 0), 2);
        Checks.due("greatest scales", x.text(0, 0, 0, 0xAA, 0), 100);
        Checks.due("off", x.text(4096, -4096, 0, 0xAA, 0), 0);
        int[] badScales = {0, 1, 10, 16, 0xA0, 0xB1, 0x1B, 0xFF, 256, 256 + 17, -1, -239, Integer.MIN_VALUE + 17};
        for (int scales : badScales) {
            Checks.illegal("scales " + scales, () -> x.text(0, 0, 0, scales, 0));
        }
        Checks.illegal("font 4", () -> x.text(0, 0, 4, 17, 0));
        Checks.illegal("font -1", () -> x.text(0, 0, -1, 17, 0));
        Checks.due("draft stays", x.wipe(), 2);
        Checks.due("no text", x.text(0, 0, 0, 17, 0), 0);
    }

    /** The last of 4000 cells can reach the sheet only from the left, above it, or by quarters 2 and 3. */
    private static void textFarOff() {
        Checks.about("11 text");
        DotSheet x = new DotSheet();
        x.sheet(1024, 1024);
        x.font(0, 1, 1, 0);
        x.cell(0, 9, 0, 1);
        for (int i = 0; i < 500; i++) {
            x.write(8, i == 499 ? 0x0909090909090909L : 0);
        }
        Checks.due("quarter 0", x.text(-4000, 3, 0, 0x11, 0), 0);
        Checks.due("quarter 0, one on", x.text(-3999, 3, 0, 0x11, 0), 1);
        Checks.due("quarter 1", x.text(3, -3995, 0, 0x11, 1), 5);
        Checks.due("quarter 2", x.text(3994, 5, 0, 0x11, 2), 3);
        Checks.due("quarter 3", x.text(5, 3994, 0, 0x11, 3), 3);
        Checks.due("dark dots", x.told(6), 1 + 5 + 3 + 3);
    }

    /** One dark dot in the last corner of a greatest cell, and one in its first, each just on the sheet or just off. */
    private static void textAtEdges() {
        Checks.about("11 text");
        DotSheet x = new DotSheet();
        x.sheet(100, 90);
        x.font(0, 32, 32, 0);
        x.cell(0, 1, 31, 1);
        x.cell(0, 2, 0, 0x80000000);
        x.write(1, 1);
        for (int quarter = 0; quarter < 4; quarter++) {
            int a = quarter == 0 || quarter == 3 ? -319 : 99 + 319;
            int b = quarter < 2 ? -319 : 89 + 319;
            int outX = a < 0 ? -1 : 1;
            int outY = b < 0 ? -1 : 1;
            Checks.due("last dot on, quarter " + quarter, x.text(a, b, 0, 0xAA, quarter), 1);
            Checks.due("its column off, quarter " + quarter, x.text(a + outX, b, 0, 0xAA, quarter), 0);
            Checks.due("its row off, quarter " + quarter, x.text(a, b + outY, 0, 0xAA, quarter), 0);
        }
        x.wipe();
        x.write(1, 2);
        for (int quarter = 0; quarter < 4; quarter++) {
            int a = quarter == 0 || quarter == 3 ? 99 : 0;
            int b = quarter < 2 ? 89 : 0;
            int outX = a == 99 ? 1 : -1;
            int outY = b == 89 ? 1 : -1;
            Checks.due("first dot on, quarter " + quarter, x.text(a, b, 0, 0xAA, quarter), 1);
            Checks.due("its column off, quarter " + quarter, x.text(a + outX, b, 0, 0xAA, quarter), 0);
            Checks.due("its row off, quarter " + quarter, x.text(a, b + outY, 0, 0xAA, quarter), 0);
        }
    }

    private static void bars() {
        Checks.about("12 bars");
        DotSheet x = new DotSheet();
        x.sheet(12, 12);
        x.write(4, 0x00010102L | 3L << 24);
        Checks.due("quarter 0", x.bars(1, 1, 2, 1, 0), 6);
        Checks.rows(x, 0, 0, "........", ".##.#...", ".##.#...", "........");
        x.wipe();
        x.write(5, 0x0200020001L);
        x.sheet(12, 12);
        Checks.due("widths of none, quarter 1", x.bars(3, 1, 2, 1, 1), 10);
        Checks.rows(x, 0, 0, "........", "..##....", "..##....", "..##....", "..##....", "..##....", "........");
        x.wipe();
        x.write(3, 0x010201L);
        x.sheet(12, 12);
        Checks.due("quarter 2, module 2", x.bars(9, 2, 1, 2, 2), 4);
        Checks.due("row", x.dots(0, 2, 12), 0b001100001100);
        x.sheet(12, 12);
        Checks.due("quarter 3", x.bars(2, 6, 3, 1, 3), 6);
        Checks.rows(x, 0, 0, "........", "........", "........", "..###...", "........", "........", "..###...", "........");
        Checks.due("off", x.bars(-4096, 0, 2048, 1, 0), 0);
        Checks.illegal("h 0", () -> x.bars(0, 0, 0, 1, 0));
        Checks.illegal("h 2049", () -> x.bars(0, 0, 2049, 1, 0));
        Checks.illegal("module 0", () -> x.bars(0, 0, 1, 0, 0));
        Checks.illegal("module 51", () -> x.bars(0, 0, 1, 51, 0));
    }

    private static void barsOfLongDraft() {
        Checks.about("12 bars");
        DotSheet x = new DotSheet();
        x.sheet(12, 12);
        for (int i = 0; i < 500; i++) {
            x.write(8, -1);
        }
        Checks.due("longest", x.bars(0, 0, 2048, 50, 0), 144);
        Checks.due("a space and the next bar", x.bars(-508, 0, 1, 1, 0), 10);
        Checks.due("a space", x.bars(-255, 0, 1, 1, 0), 0);
        Checks.due("draft stays", x.wipe(), 4000);
        Checks.due("no bars", x.bars(0, 0, 1, 1, 0), 0);
    }

    private static void square() {
        Checks.about("13 square");
        DotSheet x = new DotSheet();
        x.sheet(12, 12);
        Checks.state("no bits", () -> x.square(0, 0, 1, 1, 0));
        x.write(2, 0x80E0L);
        Checks.due("quarter 0", x.square(1, 1, 3, 1, 0), 4);
        Checks.rows(x, 0, 0, "........", ".###....", "........", "...#....", "........");
        x.sheet(12, 12);
        Checks.due("module 2", x.square(0, 0, 2, 2, 0), 12);
        Checks.rows(x, 0, 0, "####....", "####....", "##......", "##......", "........");
        x.sheet(12, 12);
        Checks.due("quarter 1", x.square(5, 1, 3, 1, 1), 4);
        Checks.rows(x, 0, 0, "........", ".....#..", ".....#..", "...#.#..", "........");
        x.sheet(12, 12);
        Checks.due("quarter 2", x.square(5, 5, 3, 1, 2), 4);
        Checks.rows(x, 0, 3, "...#....", "........", "...###..", "........");
        x.sheet(12, 12);
        Checks.due("quarter 3", x.square(1, 3, 3, 1, 3), 4);
        Checks.rows(x, 0, 0, "........", ".#.#....", ".#......", ".#......", "........");
        Checks.due("16 bits are enough for 4", x.square(0, 0, 4, 1, 0), 4);
        Checks.state("16 bits are too few for 5", () -> x.square(0, 0, 5, 1, 0));
        Checks.illegal("wrong first", () -> x.square(0, 0, 178, 1, 0));
        Checks.illegal("wrong quarter first", () -> x.square(0, 0, 5, 1, 4));
        Checks.illegal("n 0", () -> x.square(0, 0, 0, 1, 0));
        Checks.illegal("n far", () -> x.square(0, 0, 65536, 1, 0));
        Checks.illegal("module 0", () -> x.square(0, 0, 1, 0, 0));
        Checks.illegal("module 51", () -> x.square(0, 0, 1, 51, 0));
    }

    private static void picture() {
        Checks.about("14 picture");
        DotSheet x = new DotSheet();
        Checks.due("no rows", x.picture(0, 0, 2048), 0);
        x.write(4, 0xFFC3F0AAL);
        Checks.due("8 wide", x.picture(0, 0, 8), 20);
        Checks.rows(x, 0, 0, "#.#.#.#.", "####....", "##....##", "########", "........");
        x.sheet(64, 64);
        Checks.due("5 wide", x.picture(1, 1, 5), 3 + 4 + 2 + 5);
        Checks.rows(x, 0, 0, "........", ".#.#.#..", ".####...", ".##.....", ".#####..", "........");
        x.sheet(64, 64);
        Checks.due("9 wide: two bytes to a row", x.picture(0, 0, 9), 5 + 5);
        Checks.due("its first row", x.dots(0, 0, 10), 0b1010101010);
        Checks.due("its second row", x.dots(0, 1, 10), 0b1100001110);
        Checks.due("in part", x.picture(-4, -1, 8), 0 + 2 + 4);
        Checks.state("3 bytes to a row", () -> x.picture(0, 0, 17));
        Checks.state("5 bytes to a row", () -> x.picture(0, 0, 40));
        Checks.state("256 bytes to a row", () -> x.picture(0, 0, 2048));
        Checks.illegal("w 0", () -> x.picture(0, 0, 0));
        Checks.illegal("w 2049", () -> x.picture(0, 0, 2049));
        Checks.illegal("w -8", () -> x.picture(0, 0, -8));
        Checks.illegal("x first", () -> x.picture(4097, 0, 17));
        Checks.illegal("y first", () -> x.picture(0, -4097, 17));
        Checks.due("draft stays", x.wipe(), 4);
    }

    private static void turn() {
        Checks.about("15 turn");
        DotSheet x = new DotSheet();
        x.sheet(5, 3);
        x.frame(0, 0, 2, 1, 1);
        x.frame(4, 2, 1, 1, 1);
        x.turn(0);
        Checks.rows(x, 0, 0, "##......", "........", "....#...");
        x.turn(1);
        Checks.due("width", x.told(0), 3);
        Checks.due("height", x.told(1), 5);
        Checks.rows(x, 0, 0, "..#.....", "..#.....", "........", "........", "#.......");
        x.turn(2);
        Checks.rows(x, 0, 0, "..#.....", "........", "........", "#.......", "#.......");
        x.turn(3);
        Checks.due("width again", x.told(0), 5);
        Checks.rows(x, 0, 0, "#.......", "........", "...##...");
        Checks.illegal("4", () -> x.turn(4));
        Checks.illegal("-1", () -> x.turn(-1));
        Checks.due("what has not turned", x.told(0), 5);
        x.sheet(1024, 1);
        x.frame(1000, 0, 24, 1, 1);
        x.turn(1);
        Checks.due("1 wide", x.told(0), 1);
        Checks.due("down", x.run(0, 0, 0, true), 1000);
        Checks.due("down, dark", x.run(0, 0, 1, true), 24);
        Checks.due("all of the new sheet is drawn on", x.frame(0, 0, 1024, 1024, 200), 1024);
        x.turn(1);
        Checks.due("all dark", x.dots(960, 0, 64), -1L);
        x.sheet(1024, 1024);
        Checks.due("light behind turns", x.told(6), 0);
        x.frame(1, 2, 1, 1, 1);
        x.turn(1);
        Checks.due("x", x.told(2), 1021);
        Checks.due("y", x.told(3), 1);
    }

    private static void told() {
        Checks.about("16 told");
        DotSheet x = new DotSheet();
        x.sheet(300, 200);
        int[] empty = {300, 200, -1, -1, -1, -1, 0};
        for (int what = 0; what < 7; what++) {
            Checks.due("empty " + what, x.told(what), empty[what]);
        }
        x.frame(70, 150, 1, 1, 1);
        x.frame(190, 33, 2, 1, 1);
        int[] some = {300, 200, 70, 33, 191, 150, 3};
        for (int what = 0; what < 7; what++) {
            Checks.due("some " + what, x.told(what), some[what]);
        }
        x.frame(0, 0, 300, 200, 1);
        int[] edges = {300, 200, 0, 0, 299, 199, 999};
        for (int what = 0; what < 7; what++) {
            Checks.due("edges " + what, x.told(what), edges[what]);
        }
        x.sheet(1024, 1024);
        x.frame(1023, 1023, 1, 1, 1);
        for (int what = 2; what < 6; what++) {
            Checks.due("the last dot " + what, x.told(what), 1023);
        }
        Checks.illegal("-1", () -> x.told(-1));
        Checks.illegal("7", () -> x.told(7));
        Checks.illegal("far", () -> x.told(Integer.MAX_VALUE));
    }

    private static void count() {
        Checks.about("17 count");
        DotSheet x = new DotSheet();
        x.sheet(100, 100);
        x.frame(60, 60, 10, 10, 5);
        Checks.due("all", x.count(60, 60, 10, 10), 100);
        Checks.due("a quarter", x.count(65, 65, 30, 30), 25);
        Checks.due("one", x.count(69, 69, 1, 1), 1);
        Checks.due("none", x.count(70, 69, 30, 1), 0);
        Checks.due("from far", x.count(-1000, -1000, 2048, 2048), 100);
        Checks.due("not far enough", x.count(-1983, -1988, 2048, 2048), 0);
        Checks.due("just far enough", x.count(-1987, -1984, 2048, 2048), 4);
        Checks.due("off to the right", x.count(4096, 0, 2048, 2048), 0);
        Checks.due("off below", x.count(0, 4096, 2048, 2048), 0);
        Checks.due("off above", x.count(0, -4096, 2048, 2048), 0);
    }

    private static void dots() {
        Checks.about("18 dots");
        DotSheet x = new DotSheet();
        x.sheet(100, 3);
        x.frame(62, 1, 4, 1, 1);
        x.frame(99, 1, 1, 1, 1);
        Checks.due("one", x.dots(62, 1, 1), 1);
        Checks.due("one, light", x.dots(61, 1, 1), 0);
        Checks.due("the first one as the highest", x.dots(62, 1, 64), 0xF000000004000000L);
        Checks.due("over the edge of 64", x.dots(60, 1, 8), 0b00111100);
        Checks.due("behind the sheet", x.dots(99, 1, 4), 0b1000);
        Checks.due("before the sheet", x.dots(-4096, 1, 64), 0);
        Checks.due("other rows", x.dots(62, 0, 64) | x.dots(62, 2, 64) | x.dots(62, -1, 64) | x.dots(62, 3, 64), 0);
        Checks.due("far", x.dots(4096, 4096, 64), 0);
        Checks.illegal("many 0", () -> x.dots(0, 0, 0));
        Checks.illegal("many 65", () -> x.dots(0, 0, 65));
        Checks.illegal("x", () -> x.dots(4097, 0, 1));
        Checks.illegal("x below", () -> x.dots(-4097, 0, 1));
        Checks.illegal("y", () -> x.dots(0, 4097, 1));
        Checks.illegal("y below", () -> x.dots(0, -4097, 1));
    }

    private static void run() {
        Checks.about("19 run");
        DotSheet x = new DotSheet();
        x.sheet(100, 80);
        x.frame(10, 20, 30, 40, 3);
        int[] right = {10, 3, 24, 3, 60, -1};
        for (int i = 0; i < 6; i++) {
            Checks.due("right " + i, x.run(0, 30, i, false), right[i]);
        }
        int[] down = {1, 34, 3, 20, -1};
        for (int i = 0; i < 5; i++) {
            Checks.due("down " + i, x.run(20, 22, i, true), down[i]);
        }
        Checks.due("from within a run", x.run(5, 30, 0, false), 5);
        Checks.due("the last dot", x.run(99, 79, 0, true), 1);
        Checks.due("behind the last dot", x.run(99, 79, 1, true), DotSheet.NONE);
        Checks.due("-1", x.run(0, 0, -1, false), DotSheet.NONE);
        Checks.due("least", x.run(0, 0, Integer.MIN_VALUE, true), DotSheet.NONE);
        Checks.due("greatest", x.run(0, 0, Integer.MAX_VALUE, true), DotSheet.NONE);
        Checks.index("left of it", () -> x.run(-1, 0, 0, false));
        Checks.index("right of it", () -> x.run(100, 0, 0, false));
        Checks.index("above", () -> x.run(0, -1, 0, true));
        Checks.index("below", () -> x.run(0, 80, 0, true));
        Checks.index("far, but a place", () -> x.run(4096, -4096, 0, true));
        Checks.illegal("no place", () -> x.run(4097, 0, 0, true));
        Checks.illegal("no place first", () -> x.run(-1, -4097, 0, true));
    }

    private static void nothingChangesWhenRefused() {
        Checks.about("Terms: a call that throws changes nothing");
        DotSheet x = new DotSheet();
        x.font(0, 2, 2, 0);
        x.cell(0, 1, 1, 2);
        x.write(1, 1);
        Checks.illegal("font", () -> x.font(0, 3, 33, 1));
        Checks.illegal("cell", () -> x.cell(0, 257, 1, 3));
        Checks.index("row", () -> x.cell(0, 1, 2, 3));
        Checks.illegal("write", () -> x.write(9, 5));
        Checks.illegal("text", () -> x.text(0, 0, 0, 0x1B, 0));
        Checks.state("square", () -> x.square(0, 0, 3, 1, 0));
        Checks.state("picture", () -> x.picture(0, 0, 9));
        Checks.due("light still", x.told(6), 0);
        Checks.due("the old cell", x.text(0, 0, 0, 0x11, 0), 1);
        Checks.rows(x, 0, 0, "........", "#.......");
        Checks.due("the old draft", x.wipe(), 1);
    }

    private static void longestRun() {
        Checks.about("512 calls on one object");
        DotSheet x = new DotSheet();
        x.sheet(1024, 1024);
        x.way(2);
        for (int i = 0; i < 126; i++) {
            Checks.due("a line " + i, x.line(0, 0, 1023, 0, 1), 1024);
            x.turn(3);
            Checks.due("a frame " + i, x.frame(0, 0, 1024, 1024, 200), 1024 * 1024 - 624 * 624);
            x.turn(1);
        }
        Checks.due("turned over an even number of times", x.told(6), 0);
        x.line(0, 1023, 1023, 1023, 1);
        x.turn(1);
        Checks.due("at the left", x.told(4), 0);
    }
}
