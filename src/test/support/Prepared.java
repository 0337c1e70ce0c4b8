/** A sheet on which nothing is as it was at first, and all that can be learned of it. */
final class Prepared {
    static final int WIDTH = 70;
    static final int HEIGHT = 9;
    /** Font 1 has the cells of a new object, the others differ in width, height and gap. */
    private static final int[][] FONTS = {{3, 2, 1}, {8, 8, 0}, {32, 32, 32}, {5, 1, 2}};
    private static final int CODE = 1;
    private static final int OTHER_CODE = 200;

    static final String ALL = allOf(make());

    private Prepared() {
    }

    /** Two bytes are in the draft, the way is 2. */
    static DotSheet make() {
        DotSheet x = new DotSheet();
        x.sheet(WIDTH, HEIGHT);
        x.frame(60, 2, 8, 5, 1);
        x.line(0, 0, 40, 8, 2);
        for (int f = 0; f < FONTS.length; f++) {
            x.font(f, FONTS[f][0], FONTS[f][1], FONTS[f][2]);
            x.cell(f, CODE, 0, 0x55555555);
            x.cell(f, OTHER_CODE, FONTS[f][1] - 1, 0x80000005);
        }
        x.write(2, OTHER_CODE << 8 | CODE);
        x.way(2);
        return x;
    }

    /** Asks for everything; the sheet is of no use behind it. */
    static String allOf(DotSheet x) {
        StringBuilder all = new StringBuilder();
        for (int what = 0; what <= 6; what++) {
            all.append(x.told(what)).append(' ');
        }
        addDots(all, x, WIDTH, HEIGHT);
        all.append("way ").append(x.way(0));
        x.sheet(8, 16);
        x.picture(0, 0, 8);
        addDots(all, x, 8, 16);
        all.append("draft ").append(x.wipe());
        x.write(2, OTHER_CODE << 8 | CODE);
        for (int f = 0; f < FONTS.length; f++) {
            addFont(all, x, f);
        }
        return all.toString();
    }

    private static void addFont(StringBuilder all, DotSheet x, int f) {
        x.sheet(128, 32);
        x.text(0, 0, f, 0x11, 0);
        int height = heightOf(x, f);
        all.append("font ").append(height).append(' ');
        addDots(all, x, 128, height);
    }

    private static int heightOf(DotSheet x, int f) {
        int rows = 0;
        try {
            while (rows <= 32) {
                x.cell(f, 0, rows, 0);
                rows++;
            }
        } catch (IndexOutOfBoundsException e) {
            return rows;
        }
        return rows;
    }

    private static void addDots(StringBuilder all, DotSheet x, int width, int height) {
        for (int y = 0; y < height; y++) {
            for (int left = 0; left < width; left += 64) {
                all.append(Long.toHexString(x.dots(left, y, 64))).append(' ');
            }
        }
    }
}
