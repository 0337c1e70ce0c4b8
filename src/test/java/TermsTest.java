/**
 * The sentences of the document's "Terms" that name a boundary case, each with a test of its own.
 * What single promises add to them is in BoundaryTest.
 */
public final class TermsTest {
    /** A figure at a place, drawn with the draft and the font of {@link #load}. */
    private interface Figure {
        int draw(DotSheet x, int atX, int atY);
    }

    private static final Figure[] FIGURES = {
        (s, x, y) -> s.frame(x, y, 7, 5, 1),
        (s, x, y) -> s.frame(x, y, 4, 3, 2),
        (s, x, y) -> s.frame(x, y, 6, 1, 200),
        (s, x, y) -> s.line(x, y, x + 6, y + 3, 3),
        (s, x, y) -> s.line(x, y, x - 2, y + 7, 2),
        (s, x, y) -> s.line(x, y, x, y, 7),
        (s, x, y) -> s.ellipse(x, y, 9, 6, 2),
        (s, x, y) -> s.ellipse(x, y, 5, 8, 1),
        (s, x, y) -> s.ellipse(x, y, 6, 6, 3),
        (s, x, y) -> s.text(x, y, 0, 0x12, 0),
        (s, x, y) -> s.text(x, y, 0, 0x12, 1),
        (s, x, y) -> s.text(x, y, 0, 0x12, 2),
        (s, x, y) -> s.text(x, y, 0, 0x12, 3),
        (s, x, y) -> s.bars(x, y, 3, 1, 0),
        (s, x, y) -> s.bars(x, y, 3, 1, 1),
        (s, x, y) -> s.bars(x, y, 3, 1, 2),
        (s, x, y) -> s.bars(x, y, 3, 1, 3),
        (s, x, y) -> s.square(x, y, 5, 2, 0),
        (s, x, y) -> s.square(x, y, 5, 2, 1),
        (s, x, y) -> s.square(x, y, 5, 2, 2),
        (s, x, y) -> s.square(x, y, 5, 2, 3),
        (s, x, y) -> s.picture(x, y, 7),
    };

    public static void main(String[] args) {
        cornersOfTheSheet();
        ways();
        drawnOnce();
        notOnTheSheet();
        frameWithoutHole();
        frameOfSmallSides();
        lineOfOnePoint();
        lineJustNearEnough();
        lineBeyondItsEnds();
        lineFromOffTheSheet();
        ellipseOfSmallSides();
        ellipseWithoutHole();
        ellipseByFormula();
        stepsByQuarter();
        draftIsLeft();
        fontsAtFirst();
        fontsAreTheirOwn();
        textBytesAndScales();
        barsOfAllWidths();
        squareBits();
        pictureRows();
        namedFirst();
        changesNothing();
        askingChangesNothing();
        coordinates();
        sizes();
        thicknesses();
        quarters();
        Checks.end();
    }

    private static void cornersOfTheSheet() {
        Checks.about("THE SHEET has WIDTH times HEIGHT dots, 1 .. 1024 each, (0, 0) at the left and above");
        int[][] sizes = {{1, 1}, {64, 64}, {65, 63}, {63, 65}, {128, 2}, {1024, 1}, {1, 1024}, {1024, 1024}};
        for (int[] size : sizes) {
            DotSheet x = new DotSheet();
            x.sheet(size[0], size[1]);
            Checks.due("dots in a row", x.run(0, 0, 0, false), size[0]);
            Checks.due("dots in a column", x.run(0, 0, 0, true), size[1]);
            int right = size[0] - 1;
            int bottom = size[1] - 1;
            int[][] within = {{0, 0}, {right, 0}, {0, bottom}, {right, bottom}};
            for (int[] dot : within) {
                Checks.due("the dot " + dot[0] + " " + dot[1], x.frame(dot[0], dot[1], 1, 1, 1), 1);
                Checks.due("told of " + dot[0] + " " + dot[1], x.dots(dot[0], dot[1], 1), 1);
            }
            int[][] beyond = {{-1, 0}, {0, -1}, {right + 1, 0}, {0, bottom + 1}, {right + 1, bottom + 1}, {-1, -1}};
            for (int[] dot : beyond) {
                Checks.due("no dot " + dot[0] + " " + dot[1], x.frame(dot[0], dot[1], 1, 1, 1), 0);
                Checks.due("told of no " + dot[0] + " " + dot[1], x.dots(dot[0], dot[1], 1), 0);
            }
        }
    }

    private static void ways() {
        Checks.about("The WAY: 0 dots become dark, 1 light, 2 the other of both");
        int[][] dueOnLightAndDark = {{1, 1}, {0, 0}, {1, 0}};
        for (int way = 0; way <= 2; way++) {
            DotSheet x = new DotSheet();
            x.frame(1, 0, 1, 1, 1);
            x.way(way);
            Checks.due("two dots, way " + way, x.frame(0, 0, 2, 1, 1), 2);
            Checks.due("on light, way " + way, x.dots(0, 0, 1), dueOnLightAndDark[way][0]);
            Checks.due("on dark, way " + way, x.dots(1, 0, 1), dueOnLightAndDark[way][1]);
            Checks.due("nothing else, way " + way, x.told(6), dueOnLightAndDark[way][0] + dueOnLightAndDark[way][1]);
        }
    }

    private static void drawnOnce() {
        Checks.about("to DRAW it is to do so with each of its dots that lie on the sheet, once; answers how many");
        for (int f = 0; f < FIGURES.length; f++) {
            DotSheet x = new DotSheet();
            load(x);
            x.way(2);
            int many = FIGURES[f].draw(x, 30, 30);
            Checks.due("some dots, figure " + f, many > 0 ? 1 : 0, 1);
            Checks.due("each turned over once, figure " + f, x.told(6), many);
            Checks.due("as many again, figure " + f, FIGURES[f].draw(x, 30, 30), many);
            Checks.due("all turned back, figure " + f, x.told(6), 0);
            x.way(1);
            Checks.due("as many that stay light, figure " + f, FIGURES[f].draw(x, 30, 30), many);
            Checks.due("all light, figure " + f, x.told(6), 0);
            x.way(0);
            Checks.due("as many that become dark, figure " + f, FIGURES[f].draw(x, 30, 30), many);
            Checks.due("as many that stay dark, figure " + f, FIGURES[f].draw(x, 30, 30), many);
            Checks.due("dark, figure " + f, x.told(6), many);
            x.frame(0, 0, 64, 64, 200);
            x.way(1);
            Checks.due("as many that become light, figure " + f, FIGURES[f].draw(x, 30, 30), many);
            Checks.due("light, figure " + f, x.told(6), 64 * 64 - many);
        }
    }

    /** What a small sheet shows is what a great one shows where the small one would lie on it. */
    private static void notOnTheSheet() {
        Checks.about("each of its dots that lie on the sheet");
        int width = 10;
        int height = 8;
        int shift = 45;
        for (int y = -20; y <= height + 20; y++) {
            for (int x = -20; x <= width + 20; x++) {
                DotSheet small = new DotSheet();
                DotSheet great = new DotSheet();
                load(small);
                load(great);
                for (int f = 0; f < FIGURES.length; f++) {
                    String where = "figure " + f + " at " + x + " " + y;
                    small.sheet(width, height);
                    great.sheet(100, 100);
                    int drawn = FIGURES[f].draw(small, x, y);
                    FIGURES[f].draw(great, x + shift, y + shift);
                    Checks.due(where, drawn, great.count(shift, shift, width, height));
                    for (int row = 0; row < height; row++) {
                        Checks.due(where + ", row " + row, small.dots(0, row, width),
                                great.dots(shift, shift + row, width));
                    }
                }
            }
        }
    }

    private static void frameWithoutHole() {
        Checks.about("FRAME: but not those that are t or more away from all four edges");
        DotSheet x = new DotSheet();
        Checks.due("a hole of one dot", x.frame(0, 0, 3, 3, 1), 8);
        Checks.rows(x, 0, 0, "###.", "#.#.", "###.", "....");
        Checks.due("w is 2 t: no hole", x.frame(10, 0, 4, 9, 2), 36);
        Checks.due("h is 2 t: no hole", x.frame(20, 0, 9, 4, 2), 36);
        Checks.due("w is 2 t + 1: a hole", x.frame(30, 0, 5, 9, 2), 45 - 5);
        Checks.rows(x, 30, 1, "#####.", "##.##.", "##.##.", "##.##.", "##.##.", "##.##.", "#####.", "#####.", "......");
        Checks.due("h is 2 t + 1: a hole", x.frame(40, 0, 9, 5, 2), 45 - 5);
        Checks.rows(x, 40, 1, "#########.", "##.....##.", "#########.", "#########.", "..........");
        Checks.due("t above all sides", x.frame(10, 20, 6, 7, 200), 42);
        x.sheet(1024, 1024);
        Checks.due("401 with 200: a hole of one dot", x.frame(300, 300, 401, 401, 200), 401 * 401 - 1);
        Checks.due("it lies in the middle", x.count(500, 500, 1, 1), 0);
        x.sheet(1024, 1024);
        Checks.due("400 with 200: no hole", x.frame(300, 300, 400, 400, 200), 400 * 400);
    }

    private static void frameOfSmallSides() {
        Checks.about("FRAME: the dots from x to x + w - 1 and from y to y + h - 1");
        DotSheet x = new DotSheet();
        Checks.due("1 by 1", x.frame(5, 5, 1, 1, 1), 1);
        Checks.due("1 by 3", x.frame(7, 5, 1, 3, 1), 3);
        Checks.due("3 by 1", x.frame(9, 5, 3, 1, 1), 3);
        Checks.due("2 by 2", x.frame(5, 9, 2, 2, 1), 4);
        Checks.rows(x, 4, 4, ".........", ".#.#.###.", "...#.....", "...#.....", ".........", ".##......", ".##......", ".........");
        Checks.due("its last column alone", x.frame(-2047, 0, 2048, 1, 1), 1);
        Checks.due("its last column is off", x.frame(-2048, 0, 2048, 1, 1), 0);
        Checks.due("its last row alone", x.frame(0, -2047, 1, 2048, 1), 1);
        Checks.due("its last row is off", x.frame(0, -2048, 1, 2048, 1), 0);
        Checks.due("its first dot alone", x.frame(63, 63, 2048, 2048, 1), 1);
        Checks.due("its first dot is off", x.frame(64, 63, 2048, 2048, 1) + x.frame(63, 64, 2048, 2048, 1), 0);
    }

    private static void lineOfOnePoint() {
        Checks.about("LINE: no farther than half of t from some point, with both ends at one dot");
        int[][] dotsWithin = {{1, 1}, {2, 5}, {3, 9}, {4, 13}, {5, 21}, {10, 81}, {200, 31417}};
        for (int[] due : dotsWithin) {
            DotSheet x = new DotSheet();
            x.sheet(300, 300);
            Checks.due("t " + due[0], x.line(150, 150, 150, 150, due[0]), due[1]);
            int reach = due[0] / 2;
            Checks.due("left, t " + due[0], x.told(2), 150 - reach);
            Checks.due("above, t " + due[0], x.told(3), 150 - reach);
            Checks.due("right, t " + due[0], x.told(4), 150 + reach);
            Checks.due("below, t " + due[0], x.told(5), 150 + reach);
        }
    }

    private static void lineJustNearEnough() {
        Checks.about("LINE: all dots whose middle is no farther than half of t from some point of the line");
        DotSheet x = new DotSheet();
        x.sheet(200, 200);
        x.line(100, 100, 140, 130, 10);
        Checks.due("just 5 to the one side", x.dots(117, 119, 1), 1);
        Checks.due("just 5 to the other side", x.dots(123, 111, 1), 1);
        Checks.due("more than 5", x.dots(116, 119, 1) + x.dots(124, 111, 1), 0);
        x.sheet(200, 200);
        x.line(140, 130, 100, 100, 9);
        Checks.due("5 is farther than 4 1/2", x.dots(117, 119, 1) + x.dots(123, 111, 1), 0);
        x.sheet(200, 200);
        x.line(10, 10, 30, 10, 1);
        Checks.due("half of 1 is no dot", x.told(3) * 100 + x.told(5), 1010);
        x.line(10, 20, 30, 20, 2);
        Checks.due("half of 2 is one dot", x.told(5), 21);
        x.line(10, 40, 30, 40, 3);
        Checks.due("half of 3 is below two dots", x.told(5), 41);
        x.line(10, 60, 30, 60, 4);
        Checks.due("half of 4 is two dots", x.told(5), 62);
        x.sheet(8, 8);
        Checks.due("1 of root 5 is below 1/2", x.line(1, 1, 5, 3, 1), 3 + 4);
        Checks.rows(x, 0, 0, "........", ".##.....", "..###...", "....##..", "........");
        x.sheet(1024, 1024);
        Checks.due("the longest, the thickest", x.line(-4096, -4096, 4096, 4096, 200), 1024 + 2 * (141 * 1024 - 141 * 71));
    }

    private static void lineBeyondItsEnds() {
        Checks.about("LINE: from some point of the straight line from (a, b) to (c, d), and of no longer one");
        DotSheet x = new DotSheet();
        x.sheet(200, 200);
        x.line(100, 100, 140, 130, 10);
        Checks.due("just 5 behind the ends", x.dots(96, 97, 1) + x.dots(144, 133, 1), 2);
        Checks.due("more than 5 behind the ends", x.dots(95, 97, 1) + x.dots(145, 133, 1), 0);
        Checks.due("round, not cornered", x.dots(93, 101, 1) + x.dots(99, 93, 1) + x.dots(147, 129, 1), 0);
        x.sheet(200, 200);
        x.line(100, 100, 140, 130, 9);
        Checks.due("5 is farther than 4 1/2", x.dots(96, 97, 1) + x.dots(144, 133, 1), 0);
        x.sheet(200, 200);
        x.line(50, 50, 60, 50, 1);
        Checks.rows(x, 48, 49, "...............", "..###########..", "...............");
        x.sheet(200, 200);
        x.line(50, 50, 50, 60, 1);
        Checks.due("upright", x.count(50, 50, 1, 11), 11);
        Checks.due("nothing else", x.told(6), 11);
        x.sheet(64, 64);
        x.way(2);
        x.line(3, 50, 47, 9, 8);
        x.line(47, 9, 3, 50, 8);
        Checks.due("its ends can change places", x.told(6), 0);
    }

    private static void lineFromOffTheSheet() {
        Checks.about("LINE: its dots on the sheet, though its ends lie off it");
        DotSheet x = new DotSheet();
        Checks.due("from the left, just", x.line(-100, 10, -100, 50, 200), 41);
        Checks.due("from the left, not", x.line(-100, 10, -100, 50, 199), 0);
        Checks.due("from the right, just", x.line(163, 10, 163, 50, 200), 41);
        Checks.due("from the right, not", x.line(164, 10, 164, 50, 200), 0);
        Checks.due("from above, just", x.line(10, -100, 50, -100, 200), 41);
        Checks.due("from above, not", x.line(10, -101, 50, -101, 200), 0);
        Checks.due("from below, just", x.line(10, 163, 50, 163, 200), 41);
        Checks.due("from below, not", x.line(10, 163, 50, 163, 199), 0);
        Checks.due("from a corner, just", x.line(-60, -80, -60, -80, 200), 1);
        Checks.due("from a corner, not", x.line(-61, -80, -61, -80, 200), 0);
        Checks.due("right through", x.line(-4096, 5, 4096, 5, 1), 64);
        Checks.due("down through", x.line(5, 4096, 5, -4096, 1), 64);
        Checks.due("by its corners", x.line(-4033, 4096, 63, 0, 1), 64);
    }

    private static void ellipseOfSmallSides() {
        Checks.about("ELLIPSE: those with (u h)^2 + (v w)^2 not above (w h)^2");
        DotSheet x = new DotSheet();
        Checks.due("1 by 1", x.ellipse(0, 0, 1, 1, 1), 1);
        Checks.due("2 by 1", x.ellipse(2, 0, 2, 1, 1), 2);
        Checks.due("1 by 2", x.ellipse(5, 0, 1, 2, 1), 2);
        Checks.due("2 by 2", x.ellipse(7, 0, 2, 2, 1), 4);
        Checks.due("1 by 5", x.ellipse(10, 0, 1, 5, 200), 5);
        Checks.due("3 by 3 without its middle", x.ellipse(12, 0, 3, 3, 1), 8);
        Checks.due("4 by 4 without its corners", x.ellipse(16, 0, 4, 4, 2), 12);
        Checks.rows(x, 0, 0, "#.##.#.##.#.###..##..", ".....#.##.#.#.#.####.", "..........#.###.####.", "..........#......##..", "..........#..........");
        x.sheet(1024, 1024);
        Checks.due("2048 by 1, the left half", x.ellipse(0, 0, 2048, 1, 1), 1024);
        Checks.due("1 by 2048, the lower half", x.ellipse(9, -1024, 1, 2048, 1), 1024);
    }

    private static void ellipseWithoutHole() {
        Checks.about("ELLIPSE: but not those with the same for w - 2 t and h - 2 t, if both are above 0");
        DotSheet x = new DotSheet();
        x.ellipse(0, 0, 4, 4, 1);
        Checks.rows(x, 0, 0, ".##..", "#..#.", "#..#.", ".##..", ".....");
        Checks.due("both 0", x.ellipse(10, 0, 4, 4, 2), 12);
        Checks.due("both -2", x.ellipse(20, 0, 4, 4, 3), 12);
        Checks.due("both far below", x.ellipse(30, 0, 4, 4, 200), 12);
        Checks.due("5 and -1", x.ellipse(0, 10, 9, 3, 2), 7 + 9 + 7);
        Checks.due("-1 and 5", x.ellipse(20, 10, 3, 9, 2), 7 + 9 + 7);
        Checks.due("5 and 0", x.ellipse(30, 10, 9, 4, 2), 28);
        Checks.due("0 and 5", x.ellipse(40, 10, 4, 9, 2), 28);
        Checks.due("1 and 1", x.ellipse(0, 30, 5, 5, 2), 21 - 1);
        Checks.rows(x, 0, 30, ".###..", "#####.", "##.##.", "#####.", ".###..");
        Checks.due("5 and 1", x.ellipse(10, 30, 9, 5, 2), 5 + 9 + 4 + 9 + 5);
        Checks.rows(x, 10, 30, "..#####..", "#########", "##.....##", "#########", "..#####..");
    }

    private static void ellipseByFormula() {
        Checks.about("ELLIPSE: u = 2 (px - x) - (w - 1), v = 2 (py - y) - (h - 1)");
        int[][] some = {{3, 2, 40, 40, 7}, {-500, -400, 2048, 2047, 200}, {-900, 10, 1000, 33, 12}, {-1, -1, 66, 67, 1},
            {20, -2047, 5, 2048, 1}, {-1023, -1023, 1087, 1088, 199}, {5, 5, 31, 401, 15}, {0, 0, 64, 64, 32}};
        for (int[] e : some) {
            DotSheet x = new DotSheet();
            int drawn = x.ellipse(e[0], e[1], e[2], e[3], e[4]);
            int many = 0;
            for (int py = 0; py < 64; py++) {
                long due = 0;
                for (int px = 0; px < 64; px++) {
                    due = due << 1 | (isOfEllipse(px, py, e) ? 1 : 0);
                }
                many += Long.bitCount(due);
                Checks.due(e[2] + " by " + e[3] + ", row " + py, x.dots(0, py, 64), due);
            }
            Checks.due(e[2] + " by " + e[3], drawn, many);
        }
    }

    private static boolean isOfEllipse(int px, int py, int[] e) {
        long u = 2 * (px - e[0]) - (e[2] - 1);
        long v = 2 * (py - e[1]) - (e[3] - 1);
        long innerW = e[2] - 2 * e[4];
        long innerH = e[3] - 2 * e[4];
        return isNotAbove(u, v, e[2], e[3]) && !(innerW > 0 && innerH > 0 && isNotAbove(u, v, innerW, innerH));
    }

    private static boolean isNotAbove(long u, long v, long w, long h) {
        return u * h * u * h + v * w * v * w <= w * h * w * h;
    }

    private static void stepsByQuarter() {
        Checks.about("STEPS: 0: (x + i, y + j), 1: (x - j, y + i), 2: (x - i, y - j), 3: (x + j, y - i)");
        int[][] corner = {{10, 10}, {10, 10}, {10, 10}, {10, 10}};
        int[][] oneAlong = {{11, 10}, {10, 11}, {9, 10}, {10, 9}};
        int[][] oneAcross = {{10, 11}, {9, 10}, {10, 9}, {11, 10}};
        for (int quarter = 0; quarter < 4; quarter++) {
            stepsOf(quarter, 0xC0, corner[quarter], oneAlong[quarter]);
            stepsOf(quarter, 0xA0, corner[quarter], oneAcross[quarter]);
        }
    }

    /** A square, bars and a text of two dots, one of them at the corner. */
    private static void stepsOf(int quarter, int bits, int[] first, int[] second) {
        boolean along = bits == 0xC0;
        DotSheet x = new DotSheet();
        x.write(1, bits);
        Checks.due("a square", x.square(10, 10, 2, 1, quarter), 2);
        Checks.due("its dots, quarter " + quarter, x.dots(first[0], first[1], 1) + x.dots(second[0], second[1], 1), 2);
        x.sheet(64, 64);
        x.font(1, 2, 2, 0);
        x.cell(1, bits, 0, along ? 3 : 2);
        x.cell(1, bits, 1, along ? 0 : 2);
        Checks.due("a text", x.text(10, 10, 1, 0x11, quarter), 2);
        Checks.due("its dots, quarter " + quarter, x.dots(first[0], first[1], 1) + x.dots(second[0], second[1], 1), 2);
        x.sheet(64, 64);
        x.wipe();
        x.write(1, along ? 2 : 1);
        Checks.due("a bar", x.bars(10, 10, along ? 1 : 2, 1, quarter), 2);
        Checks.due("its dots, quarter " + quarter, x.dots(first[0], first[1], 1) + x.dots(second[0], second[1], 1), 2);
    }

    private static void draftIsLeft() {
        Checks.about("what draws from the draft leaves it as it is");
        DotSheet x = new DotSheet();
        x.write(4, 0x92_7F_0E_C1L);
        x.text(0, 0, 0, 0xAA, 1);
        x.bars(0, 0, 2048, 50, 2);
        x.square(0, 0, 5, 50, 3);
        x.picture(0, 0, 32);
        x.frame(0, 0, 9, 9, 1);
        x.line(0, 0, 9, 9, 1);
        x.ellipse(0, 0, 9, 9, 1);
        x.turn(1);
        x.sheet(32, 8);
        x.picture(0, 0, 32);
        Checks.due("the bytes", x.dots(0, 0, 32), 0xC10E7F92L);
        Checks.due("how many", x.wipe(), 4);
    }

    private static void fontsAtFirst() {
        Checks.about("FONTS: for each code 0 .. 255 a cell with dots that are dark or not, at first none");
        DotSheet x = new DotSheet();
        x.sheet(1024, 1024);
        for (int code = 0; code < 256; code += 8) {
            x.write(8, 0x0706050403020100L + code * 0x0101010101010101L);
        }
        for (int font = 0; font < 4; font++) {
            Checks.due("no dark dot, font " + font, x.text(-1000, 0, font, 0x11, 0) + x.text(0, 0, font, 0x11, 0)
                    + x.text(0, -1000, font, 0x11, 1), 0);
        }
    }

    private static void fontsAreTheirOwn() {
        Checks.about("FONTS 0 .. 3 have CELLS; for each code 0 .. 255 a cell");
        DotSheet x = new DotSheet();
        for (int font = 0; font < 4; font++) {
            x.font(font, 4, 1, 0);
            x.cell(font, 0, 0, 8 >> font);
            x.cell(font, 255, 0, 15 ^ 8 >> font);
        }
        x.write(2, 0xFF00);
        for (int font = 0; font < 4; font++) {
            x.text(0, font, font, 0x11, 0);
        }
        Checks.rows(x, 0, 0, "#....###.", ".#..#.##.", "..#.##.#.", "...####..", ".........");
    }

    private static void textBytesAndScales() {
        Checks.about("A TEXT: byte k is the code of cell k; steps i from p (k (w + gap) + c) on, p of them, j from q r on");
        DotSheet x = new DotSheet();
        x.sheet(1024, 1024);
        Checks.due("an empty text", x.text(0, 0, 0, 0x11, 0), 0);
        x.font(0, 32, 32, 32);
        for (int r = 0; r < 32; r++) {
            x.cell(0, 128, r, -1);
        }
        x.write(2, 0x8080);
        Checks.due("two greatest cells", x.text(0, 0, 0, 0xAA, 0), 2 * 320 * 320);
        Checks.due("the first", x.run(0, 319, 0, false), 320);
        Checks.due("the gap", x.run(0, 319, 1, false), 320);
        Checks.due("the second", x.run(0, 319, 2, false), 320);
        Checks.due("behind it", x.run(0, 319, 3, false), 64);
        Checks.due("below it", x.dots(0, 320, 64), 0);
        x.sheet(1024, 1024);
        x.font(1, 1, 1, 0);
        x.cell(1, 128, 0, 1);
        Checks.due("two smallest cells", x.text(0, 0, 1, 0x11, 0), 2);
        Checks.rows(x, 0, 0, "##.", "...");
        Checks.due("p alone", x.text(0, 10, 1, 0xA1, 0), 20);
        Checks.rows(x, 0, 10, "####################.", ".....................");
        Checks.due("q alone", x.text(0, 20, 1, 0x1A, 0), 20);
        Checks.due("q alone: its rows", x.count(0, 20, 2, 10), 20);
    }

    private static void barsOfAllWidths() {
        Checks.about("BARS: the bytes are widths, of a bar first, then of a space, and so on; each width m times as many");
        DotSheet x = new DotSheet();
        x.sheet(1024, 4);
        Checks.due("no widths", x.bars(0, 0, 4, 50, 0), 0);
        x.write(1, 0);
        Checks.due("a bar of none", x.bars(0, 0, 4, 50, 0), 0);
        x.write(1, 7);
        Checks.due("a space last", x.bars(0, 0, 4, 1, 0), 0);
        x.write(1, 3);
        Checks.due("a bar behind a space", x.bars(0, 0, 4, 1, 0), 12);
        Checks.rows(x, 0, 3, ".......###..");
        x.sheet(1024, 4);
        x.wipe();
        x.write(3, 0x01_00_02);
        Checks.due("a space of none", x.bars(0, 0, 1, 2, 0), 6);
        Checks.rows(x, 0, 0, "######..", "........");
        x.sheet(1024, 4);
        x.wipe();
        x.write(3, 0x80_FF_FF);
        Checks.due("widths above 127", x.bars(0, 1, 1, 1, 0), 255 + 128);
        Checks.due("the bar", x.run(0, 1, 0, false), 255);
        Checks.due("the space", x.run(0, 1, 1, false), 255);
        Checks.due("the next bar", x.run(0, 1, 2, false), 128);
        Checks.due("the widest bar, modules of 50", x.bars(-4096, 2, 1, 50, 0), 1024);
        Checks.due("the space behind it alone", x.bars(4096, 2, 1, 4, 2), 0);
        Checks.due("j up to h - 1", x.bars(0, 0, 3, 1, 0), 3 * (255 + 128));
        Checks.due("not to h", x.count(0, 3, 1024, 1), 0);
    }

    private static void squareBits() {
        Checks.about("SQUARE: bit n r + c of the draft, bits counted from the highest one of the first byte on");
        DotSheet x = new DotSheet();
        x.write(2, 0x01_80);
        Checks.due("the first bit", x.square(0, 0, 1, 1, 0), 1);
        Checks.due("the first and the last", x.square(10, 0, 4, 1, 0), 2);
        Checks.rows(x, 10, 0, "#....", ".....", ".....", "...#.", ".....");
        Checks.due("the last is not of it", x.square(20, 0, 3, 50, 0), 44 * 50);
        x.wipe();
        x.sheet(64, 64);
        x.write(2, 0xFF_7F);
        Checks.due("the highest is 0", x.square(0, 0, 1, 50, 0), 0);
        Checks.due("bits behind the last row are not drawn", x.square(0, 0, 3, 1, 0), 8);
        Checks.rows(x, 0, 0, ".##.", "###.", "###.", "....");
        x.sheet(64, 64);
        Checks.due("modules of 3", x.square(1, 1, 2, 3, 0), 27);
        Checks.rows(x, 0, 0, "........", "....###.", "....###.", "....###.", ".######.", ".######.", ".######.", "........");
    }

    private static void pictureRows() {
        Checks.about("PICTURE: its rows have as many bytes as it takes for w bits; c below w");
        DotSheet x = new DotSheet();
        x.write(4, 0xFFFFFFFFL);
        int[][] widthAndDots = {{1, 4}, {7, 28}, {8, 32}, {9, 18}, {15, 30}, {16, 32}, {25, 25}, {31, 31}, {32, 32}};
        for (int[] due : widthAndDots) {
            x.sheet(64, 64);
            Checks.due("w " + due[0], x.picture(0, 0, due[0]), due[1]);
            Checks.due("its right edge, w " + due[0], x.told(4), due[0] - 1);
            Checks.due("its rows, w " + due[0], x.told(5), due[1] / due[0] - 1);
        }
        x.sheet(64, 64);
        x.wipe();
        x.write(3, 0x01_40_80);
        Checks.due("the highest first", x.picture(0, 0, 8), 3);
        Checks.rows(x, 0, 0, "#........", ".#.......", ".......#.", ".........");
    }

    private static void namedFirst() {
        Checks.about("IllegalArgumentException everywhere, tested first; the one named first when several would do");
        Class<?> illegal = IllegalArgumentException.class;
        Checks.refused("cell: font, and no row", illegal, x -> x.cell(4, 0, 32, 0));
        Checks.refused("cell: code, and no row", illegal, x -> x.cell(0, -1, -1, 0));
        Checks.refused("square: x, and too few bits", illegal, x -> x.square(4097, 0, 177, 1, 0));
        Checks.refused("square: y, and too few bits", illegal, x -> x.square(0, -4097, 177, 1, 0));
        Checks.refused("square: n, and too few bits", illegal, x -> x.square(0, 0, 178, 1, 0));
        Checks.refused("square: module, and too few bits", illegal, x -> x.square(0, 0, 177, 51, 0));
        Checks.refused("square: quarter, and too few bits", illegal, x -> x.square(0, 0, 177, 1, 4));
        Checks.refused("picture: x, and a row not whole", illegal, x -> x.picture(-4097, 0, 17));
        Checks.refused("picture: y, and a row not whole", illegal, x -> x.picture(0, 4097, 17));
        Checks.refused("picture: w, and a row not whole", illegal, x -> x.picture(0, 0, 2049));
        Checks.refused("run: x is no coordinate, nor on the sheet", illegal, x -> x.run(4097, 0, 0, false));
        Checks.refused("run: y is no coordinate, x not on the sheet", illegal, x -> x.run(-1, -4097, 0, true));
        Checks.refused("run: x is no coordinate, y not on the sheet", illegal, x -> x.run(-4097, 9, 0, true));
    }

    private static void changesNothing() {
        Checks.about("a call that throws, or answers NONE, changes nothing");
        int last = Prepared.WIDTH - 1;
        Checks.leaves("run behind the last", x -> Checks.due("run", x.run(last, 0, 1, false), DotSheet.NONE));
        Checks.leaves("run down below 0", x -> Checks.due("run", x.run(0, 0, -1, true), DotSheet.NONE));
        Checks.refused("told, that would be NONE", IllegalArgumentException.class, x -> x.told(DotSheet.NONE));
        DotSheet light = new DotSheet();
        Checks.due("least x of none", light.told(2), DotSheet.NONE);
        Checks.due("greatest y of none", light.told(5), DotSheet.NONE);
        Checks.due("none still", light.told(6), 0);
    }

    private static void askingChangesNothing() {
        Checks.about("what is on the sheet is told back, and stays");
        Checks.leaves("told", x -> {
            for (int what = 0; what <= 6; what++) {
                x.told(what);
            }
        });
        Checks.leaves("count", x -> x.count(-5, -5, 2048, 2048));
        Checks.leaves("dots", x -> x.dots(-5, 3, 64));
        Checks.leaves("run", x -> x.run(3, 0, 2, false));
        Checks.leaves("run down", x -> x.run(3, 0, 1, true));
        Checks.leaves("turn by none", x -> x.turn(0));
        Checks.leaves("the way that it is", x -> x.way(2));
    }

    private static void coordinates() {
        Checks.about("IllegalArgumentException: a coordinate (x, y, a, b, c, d) is not -4096 .. 4096");
        coordinate("frame x", (s, v) -> s.frame(v, 0, 9, 9, 1));
        coordinate("frame y", (s, v) -> s.frame(0, v, 9, 9, 1));
        coordinate("line a", (s, v) -> s.line(v, 0, 9, 9, 1));
        coordinate("line b", (s, v) -> s.line(0, v, 9, 9, 1));
        coordinate("line c", (s, v) -> s.line(0, 0, v, 9, 1));
        coordinate("line d", (s, v) -> s.line(0, 0, 9, v, 1));
        coordinate("ellipse x", (s, v) -> s.ellipse(v, 0, 9, 9, 1));
        coordinate("ellipse y", (s, v) -> s.ellipse(0, v, 9, 9, 1));
        coordinate("text x", (s, v) -> s.text(v, 0, 0, 0x11, 0));
        coordinate("text y", (s, v) -> s.text(0, v, 0, 0x11, 0));
        coordinate("bars x", (s, v) -> s.bars(v, 0, 9, 1, 0));
        coordinate("bars y", (s, v) -> s.bars(0, v, 9, 1, 0));
        coordinate("square x", (s, v) -> s.square(v, 0, 4, 1, 0));
        coordinate("square y", (s, v) -> s.square(0, v, 4, 1, 0));
        coordinate("picture x", (s, v) -> s.picture(v, 0, 8));
        coordinate("picture y", (s, v) -> s.picture(0, v, 8));
        coordinate("count x", (s, v) -> s.count(v, 0, 9, 9));
        coordinate("count y", (s, v) -> s.count(0, v, 9, 9));
        coordinate("dots x", (s, v) -> s.dots(v, 0, 9));
        coordinate("dots y", (s, v) -> s.dots(0, v, 9));
        Checks.outside("run x", -4096, 4096, IllegalArgumentException.class, (s, v) -> s.run(v, 0, 0, false));
        Checks.outside("run y", -4096, 4096, IllegalArgumentException.class, (s, v) -> s.run(0, v, 0, true));
    }

    private static void coordinate(String what, Checks.CallWith call) {
        Checks.range(what, -4096, 4096, call);
    }

    private static void sizes() {
        Checks.about("IllegalArgumentException: a size (w, h) not 1 .. 2048, unless it is said otherwise");
        size("frame w", (s, v) -> s.frame(0, 0, v, 9, 1));
        size("frame h", (s, v) -> s.frame(0, 0, 9, v, 1));
        size("ellipse w", (s, v) -> s.ellipse(0, 0, v, 9, 1));
        size("ellipse h", (s, v) -> s.ellipse(0, 0, 9, v, 1));
        size("bars h", (s, v) -> s.bars(0, 0, v, 1, 0));
        size("count w", (s, v) -> s.count(0, 0, v, 9));
        size("count h", (s, v) -> s.count(0, 0, 9, v));
        Checks.outside("picture w", 1, 2048, IllegalArgumentException.class, (s, v) -> s.picture(0, 0, v));
        Checks.allowed("picture w 1", s -> s.picture(0, 0, 1));
        Checks.allowed("picture w 2048", s -> {
            s.wipe();
            s.picture(0, 0, 2048);
        });
    }

    private static void size(String what, Checks.CallWith call) {
        Checks.range(what, 1, 2048, call);
    }

    private static void thicknesses() {
        Checks.about("IllegalArgumentException: t not 1 .. 200");
        Checks.range("frame t", 1, 200, (s, v) -> s.frame(0, 0, 9, 9, v));
        Checks.range("line t", 1, 200, (s, v) -> s.line(0, 0, 9, 9, v));
        Checks.range("ellipse t", 1, 200, (s, v) -> s.ellipse(0, 0, 9, 9, v));
    }

    private static void quarters() {
        Checks.about("IllegalArgumentException: a quarter not 0 .. 3");
        Checks.range("text quarter", 0, 3, (s, v) -> s.text(9, 9, 0, 0x11, v));
        Checks.range("bars quarter", 0, 3, (s, v) -> s.bars(9, 9, 9, 1, v));
        Checks.range("square quarter", 0, 3, (s, v) -> s.square(9, 9, 4, 1, v));
        Checks.range("turn quarter", 0, 3, (s, v) -> s.turn(v));
    }

    /** Four bytes with bars of 3 and 4, and with cells of 3 times 2 that differ. */
    private static void load(DotSheet x) {
        x.font(0, 3, 2, 1);
        x.cell(0, 3, 0, 0b110);
        x.cell(0, 2, 1, 0b001);
        x.cell(0, 4, 0, 0b100);
        x.cell(0, 4, 1, 0b111);
        x.cell(0, 0x45, 0, 0b010);
        x.write(4, 0x45_04_02_03L);
    }
}
