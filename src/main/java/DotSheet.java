import java.util.Arrays;

/** A sheet of dots on which a label is drawn, and what is on it told back. */
public final class DotSheet {
    public static final int NONE = -1;

    private static final int FARTHEST = 4096;
    private static final int GREATEST_SIZE = 2048;
    private static final int GREATEST_THICKNESS = 200;
    private static final int GREATEST_MODULE = 50;
    private static final int GREATEST_SQUARE = 177;
    private static final int GREATEST_SCALE = 10;

    private final Paper paper;
    private final Steps steps;
    private final Draft draft;
    private final Font[] fonts;

    public DotSheet() {
        paper = new Paper();
        steps = new Steps(paper);
        draft = new Draft();
        fonts = new Font[Font.FONTS];
        for (int i = 0; i < Font.FONTS; i++) {
            fonts[i] = new Font();
        }
    }

    public void sheet(int width, int height) throws IllegalArgumentException {
        demand(isWithin(width, 1, Paper.SIDE) && isWithin(height, 1, Paper.SIDE));
        paper.renew(width, height);
    }

    public int way(int way) throws IllegalArgumentException {
        demand(isWithin(way, Paper.DARKEN, Paper.INVERT));
        int before = paper.manner;
        paper.manner = way;
        return before;
    }

    public int write(int n, long bytes) throws IllegalArgumentException {
        demand(isWithin(n, 1, 8));
        return draft.append(n, bytes) ? draft.size : NONE;
    }

    public int wipe() {
        int before = draft.size;
        draft.size = 0;
        return before;
    }

    public int frame(int x, int y, int w, int h, int t) throws IllegalArgumentException {
        demandBox(x, y, w, h);
        demand(isThickness(t));
        int right = x + w - 1;
        int bottom = y + h - 1;
        int drawn = 0;
        for (int row = Math.max(y, 0); row <= Math.min(bottom, paper.height - 1); row++) {
            if (isWithin(row, y + t, bottom - t)) {
                drawn += paper.drawRing(row, x, right, x + t, right - t);
            } else {
                drawn += paper.drawBox(x, row, right, row);
            }
        }
        return drawn;
    }

    public int line(int a, int b, int c, int d, int t) throws IllegalArgumentException {
        demand(isPlace(a) && isPlace(b) && isPlace(c) && isPlace(d) && isThickness(t));
        Stroke stroke = new Stroke(a, b, c, d, t);
        int top = Math.max(Math.min(b, d) - t / 2, 0);
        int bottom = Math.min(Math.max(b, d) + t / 2, paper.height - 1);
        int drawn = 0;
        for (int row = top; row <= bottom; row++) {
            stroke.cross(row);
            drawn += paper.drawBox(stroke.left, row, stroke.right, row);
        }
        return drawn;
    }

    public int ellipse(int x, int y, int w, int h, int t) throws IllegalArgumentException {
        demandBox(x, y, w, h);
        demand(isThickness(t));
        int bottom = Math.min(y + h - 1, paper.height - 1);
        int drawn = 0;
        for (int row = Math.max(y, 0); row <= bottom; row++) {
            int v = 2 * (row - y) - (h - 1);
            int outer = Reckoning.ellipseReach(w, h, v);
            int inner = Reckoning.ellipseReach(w - 2 * t, h - 2 * t, v);
            if (outer != NONE) {
                drawn += drawEllipseRow(row, x, w, outer, inner);
            }
        }
        return drawn;
    }

    public void font(int font, int w, int h, int gap) throws IllegalArgumentException {
        demand(isFont(font) && isWithin(w, 1, Font.SIDE) && isWithin(h, 1, Font.SIDE));
        demand(isWithin(gap, 0, Font.SIDE));
        fonts[font].renew(w, h, gap);
    }

    public void cell(int font, int code, int r, int bits) throws IllegalArgumentException, IndexOutOfBoundsException {
        demand(isFont(font) && isWithin(code, 0, Font.CODES - 1));
        if (!isWithin(r, 0, fonts[font].height - 1)) {
            throw new IndexOutOfBoundsException("the cells have no such row");
        }
        fonts[font].setRow(code, r, bits);
    }

    public int text(int x, int y, int font, int scales, int quarter) throws IllegalArgumentException {
        demandCorner(x, y, quarter);
        demand(isFont(font) && isWithin(scales, 0, 255));
        int p = scales >> 4;
        int q = scales & 15;
        demand(isWithin(p, 1, GREATEST_SCALE) && isWithin(q, 1, GREATEST_SCALE));
        steps.startAt(x, y, quarter);
        Font letters = fonts[font];
        int advance = p * (letters.width + letters.gap);
        int drawn = 0;
        for (int k = 0; k < draft.size; k++) {
            // A long text lies mostly off the sheet: its cells there are not looked into.
            if (steps.touchPaper(k * advance, 0, p * letters.width, q * letters.height)) {
                drawn += drawCell(letters, draft.byteAt(k), k * advance, p, q);
            }
        }
        return drawn;
    }

    public int bars(int x, int y, int h, int module, int quarter) throws IllegalArgumentException {
        demandCorner(x, y, quarter);
        demand(isSize(h) && isWithin(module, 1, GREATEST_MODULE));
        steps.startAt(x, y, quarter);
        int drawn = 0;
        int start = 0;
        for (int k = 0; k < draft.size; k++) {
            int along = module * draft.byteAt(k);
            if (k % 2 == 0) {
                drawn += steps.drawBlock(start, 0, along, h);
            }
            start += along;
        }
        return drawn;
    }

    public int square(int x, int y, int n, int module, int quarter) throws IllegalArgumentException, IllegalStateException {
        demandCorner(x, y, quarter);
        demand(isWithin(n, 1, GREATEST_SQUARE) && isWithin(module, 1, GREATEST_MODULE));
        if (8 * draft.size < n * n) {
            throw new IllegalStateException("the draft has too few bits");
        }
        steps.startAt(x, y, quarter);
        int drawn = 0;
        for (int r = 0; r < n; r++) {
            for (int c = 0; c < n; c++) {
                if (draft.hasBit(n * r + c)) {
                    drawn += steps.drawBlock(module * c, module * r, module, module);
                }
            }
        }
        return drawn;
    }

    public int picture(int x, int y, int w) throws IllegalArgumentException, IllegalStateException {
        demand(isPlace(x) && isPlace(y) && isSize(w));
        int rowBytes = (w + 7) / 8;
        if (draft.size % rowBytes != 0) {
            throw new IllegalStateException("the last row is not whole");
        }
        int rows = draft.size / rowBytes;
        int drawn = 0;
        for (int r = 0; r < rows; r++) {
            for (int c = 0; c < w; c++) {
                if (draft.hasBit(8 * rowBytes * r + c)) {
                    drawn += paper.drawBox(x + c, y + r, x + c, y + r);
                }
            }
        }
        return drawn;
    }

    public void turn(int quarter) throws IllegalArgumentException {
        demand(isQuarter(quarter));
        for (int i = 0; i < quarter; i++) {
            paper.turnRight();
        }
    }

    public int told(int what) throws IllegalArgumentException {
        switch (what) {
            case 0:
                return paper.width;
            case 1:
                return paper.height;
            case 2:
                return paper.leastX();
            case 3:
                return paper.leastY();
            case 4:
                return paper.greatestX();
            case 5:
                return paper.greatestY();
            case 6:
                return paper.darkIn(0, 0, paper.width - 1, paper.height - 1);
            default:
                throw new IllegalArgumentException("nothing of this kind is told");
        }
    }

    public int count(int x, int y, int w, int h) throws IllegalArgumentException {
        demandBox(x, y, w, h);
        return paper.darkIn(x, y, x + w - 1, y + h - 1);
    }

    public long dots(int x, int y, int many) throws IllegalArgumentException {
        demand(isPlace(x) && isPlace(y) && isWithin(many, 1, 64));
        long bits = 0;
        for (int i = 0; i < many; i++) {
            bits = (bits << 1) | (paper.isDark(x + i, y) ? 1L : 0L);
        }
        return bits;
    }

    public int run(int x, int y, int i, boolean down) throws IllegalArgumentException, IndexOutOfBoundsException {
        demand(isPlace(x) && isPlace(y));
        if (!paper.has(x, y)) {
            throw new IndexOutOfBoundsException("the dot lies not on the sheet");
        }
        return down ? paper.runDown(x, y, i) : paper.runRight(x, y, i);
    }

    private int drawEllipseRow(int row, int x, int w, int outer, int inner) {
        int left = x + Reckoning.firstStep(w, outer);
        int right = x + Reckoning.lastStep(w, outer);
        if (inner == NONE) {
            return paper.drawBox(left, row, right, row);
        }
        return paper.drawRing(row, left, right, x + Reckoning.firstStep(w, inner), x + Reckoning.lastStep(w, inner));
    }

    private int drawCell(Font letters, int code, int start, int p, int q) {
        int drawn = 0;
        for (int r = 0; r < letters.height; r++) {
            for (int c = 0; c < letters.width; c++) {
                if (letters.isDark(code, c, r)) {
                    drawn += steps.drawBlock(start + p * c, q * r, p, q);
                }
            }
        }
        return drawn;
    }

    private static void demandBox(int x, int y, int w, int h) {
        demand(isPlace(x) && isPlace(y) && isSize(w) && isSize(h));
    }

    private static void demandCorner(int x, int y, int quarter) {
        demand(isPlace(x) && isPlace(y) && isQuarter(quarter));
    }

    private static void demand(boolean holds) {
        if (!holds) {
            throw new IllegalArgumentException("an argument is out of its range");
        }
    }

    private static boolean isPlace(int coordinate) {
        return isWithin(coordinate, -FARTHEST, FARTHEST);
    }

    private static boolean isSize(int size) {
        return isWithin(size, 1, GREATEST_SIZE);
    }

    private static boolean isThickness(int t) {
        return isWithin(t, 1, GREATEST_THICKNESS);
    }

    private static boolean isQuarter(int quarter) {
        return isWithin(quarter, 0, 3);
    }

    private static boolean isFont(int font) {
        return isWithin(font, 0, Font.FONTS - 1);
    }

    private static boolean isWithin(int value, int least, int greatest) {
        return value >= least && value <= greatest;
    }

    /**
     * The dots, 64 to a word, the leftmost as the highest bit. Bits that lie
     * not on the sheet are always 0, so that words can be told without a look
     * at the edges.
     */
    private static final class Paper {
        static final int SIDE = 1024;
        static final int DARKEN = 0;
        static final int LIGHTEN = 1;
        static final int INVERT = 2;
        private static final int WORD = 64;
        private static final int ROW_WORDS = SIDE / WORD;

        int width = 64;
        int height = 64;
        int manner = DARKEN;
        private long[] words = new long[SIDE * ROW_WORDS];
        // Made once and used for every turn, as what a run makes is counted.
        private long[] spare = new long[SIDE * ROW_WORDS];
        private final long[] block = new long[WORD];

        void renew(int newWidth, int newHeight) {
            Arrays.fill(words, 0L);
            width = newWidth;
            height = newHeight;
        }

        boolean has(int x, int y) {
            return x >= 0 && x < width && y >= 0 && y < height;
        }

        boolean isDark(int x, int y) {
            return has(x, y) && (words[y * ROW_WORDS + x / WORD] << (x % WORD)) < 0;
        }

        boolean touches(int left, int top, int right, int bottom) {
            return left < width && top < height && right >= 0 && bottom >= 0;
        }

        int drawBox(int left, int top, int right, int bottom) {
            int first = Math.max(left, 0);
            int last = Math.min(right, width - 1);
            int firstRow = Math.max(top, 0);
            int lastRow = Math.min(bottom, height - 1);
            if (first > last || firstRow > lastRow) {
                return 0;
            }
            for (int column = first / WORD; column <= last / WORD; column++) {
                long mask = maskOf(column, first, last);
                for (int row = firstRow; row <= lastRow; row++) {
                    change(row * ROW_WORDS + column, mask);
                }
            }
            return (last - first + 1) * (lastRow - firstRow + 1);
        }

        int drawRing(int row, int left, int right, int holeLeft, int holeRight) {
            if (holeLeft > holeRight) {
                return drawBox(left, row, right, row);
            }
            return drawBox(left, row, holeLeft - 1, row) + drawBox(holeRight + 1, row, right, row);
        }

        int darkIn(int left, int top, int right, int bottom) {
            int first = Math.max(left, 0);
            int last = Math.min(right, width - 1);
            int firstRow = Math.max(top, 0);
            int lastRow = Math.min(bottom, height - 1);
            if (first > last) {
                return 0;
            }
            int dark = 0;
            for (int column = first / WORD; column <= last / WORD; column++) {
                long mask = maskOf(column, first, last);
                for (int row = firstRow; row <= lastRow; row++) {
                    dark += Long.bitCount(words[row * ROW_WORDS + column] & mask);
                }
            }
            return dark;
        }

        int leastX() {
            for (int column = 0; column < ROW_WORDS; column++) {
                long all = allOfColumn(column);
                if (all != 0) {
                    return column * WORD + Long.numberOfLeadingZeros(all);
                }
            }
            return NONE;
        }

        int greatestX() {
            for (int column = ROW_WORDS - 1; column >= 0; column--) {
                long all = allOfColumn(column);
                if (all != 0) {
                    return column * WORD + WORD - 1 - Long.numberOfTrailingZeros(all);
                }
            }
            return NONE;
        }

        int leastY() {
            for (int row = 0; row < height; row++) {
                if (hasDarkInRow(row)) {
                    return row;
                }
            }
            return NONE;
        }

        int greatestY() {
            for (int row = height - 1; row >= 0; row--) {
                if (hasDarkInRow(row)) {
                    return row;
                }
            }
            return NONE;
        }

        int runRight(int x, int y, int i) {
            return runLength(x, y, 1, 0, width - x, i);
        }

        int runDown(int x, int y, int i) {
            return runLength(x, y, 0, 1, height - y, i);
        }

        /** A turn to the right is the rows in the opposite order, and then rows and columns in each other's place. */
        void turnRight() {
            Arrays.fill(spare, 0L);
            for (int down = 0; down * WORD < height; down++) {
                for (int along = 0; along * WORD < width; along++) {
                    takeBlock(down, along);
                    transposeBlock();
                    putBlock(along, down);
                }
            }
            long[] turned = spare;
            spare = words;
            words = turned;
            int newWidth = height;
            height = width;
            width = newWidth;
        }

        private int runLength(int x, int y, int stepX, int stepY, int many, int i) {
            boolean dark = isDark(x, y);
            int index = 0;
            int length = 0;
            for (int k = 0; k < many; k++) {
                if (isDark(x + k * stepX, y + k * stepY) != dark) {
                    if (index == i) {
                        return length;
                    }
                    dark = !dark;
                    index++;
                    length = 0;
                }
                length++;
            }
            return index == i ? length : NONE;
        }

        private void change(int index, long mask) {
            if (manner == DARKEN) {
                words[index] |= mask;
            } else if (manner == LIGHTEN) {
                words[index] &= ~mask;
            } else {
                words[index] ^= mask;
            }
        }

        /** The bits of a word column that lie from first to last; some of them must. */
        private static long maskOf(int column, int first, int last) {
            int from = Math.max(first - column * WORD, 0);
            int to = Math.min(last - column * WORD, WORD - 1);
            return (-1L >>> from) & (-1L << (WORD - 1 - to));
        }

        private long allOfColumn(int column) {
            long all = 0;
            for (int row = 0; row < height; row++) {
                all |= words[row * ROW_WORDS + column];
            }
            return all;
        }

        private boolean hasDarkInRow(int row) {
            for (int column = 0; column < ROW_WORDS; column++) {
                if (words[row * ROW_WORDS + column] != 0) {
                    return true;
                }
            }
            return false;
        }

        private void takeBlock(int down, int along) {
            for (int k = 0; k < WORD; k++) {
                int row = height - 1 - (down * WORD + k);
                block[k] = row < 0 ? 0L : words[row * ROW_WORDS + along];
            }
        }

        private void putBlock(int down, int along) {
            for (int k = 0; k < WORD; k++) {
                spare[(down * WORD + k) * ROW_WORDS + along] = block[k];
            }
        }

        /** Exchanges the off-diagonal quarters of the block, then those of its quarters, and so on. */
        private void transposeBlock() {
            long mask = 0xFFFFFFFFL;
            for (int half = WORD / 2; half > 0; half /= 2) {
                for (int k = 0; k < WORD; k++) {
                    if ((k & half) == 0) {
                        long other = (block[k] ^ (block[k + half] >>> half)) & mask;
                        block[k] ^= other;
                        block[k + half] ^= other << half;
                    }
                }
                mask ^= mask << (half / 2);
            }
        }
    }

    /** Steps from a corner, along and across, in one of the four directions. */
    private static final class Steps {
        private final Paper paper;
        private int x;
        private int y;
        private int quarter;
        private int left;
        private int top;
        private int right;
        private int bottom;

        Steps(Paper paper) {
            this.paper = paper;
        }

        void startAt(int cornerX, int cornerY, int direction) {
            x = cornerX;
            y = cornerY;
            quarter = direction;
        }

        int drawBlock(int i, int j, int along, int across) {
            place(i, j, i + along - 1, j + across - 1);
            return paper.drawBox(left, top, right, bottom);
        }

        boolean touchPaper(int i, int j, int along, int across) {
            place(i, j, i + along - 1, j + across - 1);
            return paper.touches(left, top, right, bottom);
        }

        private void place(int i, int j, int lastI, int lastJ) {
            switch (quarter) {
                case 0:
                    bound(x + i, y + j, x + lastI, y + lastJ);
                    break;
                case 1:
                    bound(x - lastJ, y + i, x - j, y + lastI);
                    break;
                case 2:
                    bound(x - lastI, y - lastJ, x - i, y - j);
                    break;
                default:
                    bound(x + j, y - lastI, x + lastJ, y - i);
                    break;
            }
        }

        private void bound(int newLeft, int newTop, int newRight, int newBottom) {
            left = newLeft;
            top = newTop;
            right = newRight;
            bottom = newBottom;
        }
    }

    /** The bytes that texts, bars, squares and pictures are drawn from. */
    private static final class Draft {
        private static final int MOST = 4096;

        int size = 0;
        private final byte[] bytes = new byte[MOST];

        boolean append(int n, long lowestFirst) {
            if (size + n > MOST) {
                return false;
            }
            for (int k = 0; k < n; k++) {
                bytes[size + k] = (byte) (lowestFirst >>> (8 * k));
            }
            size += n;
            return true;
        }

        int byteAt(int k) {
            return k >= 0 && k < size ? bytes[k] & 255 : 0;
        }

        boolean hasBit(int index) {
            return ((byteAt(index / 8) >> (7 - index % 8)) & 1) != 0;
        }
    }

    /** The cells of all codes, of one size. */
    private static final class Font {
        static final int FONTS = 4;
        static final int CODES = 256;
        static final int SIDE = 32;

        int width = 8;
        int height = 8;
        int gap = 0;
        private final int[] rows = new int[CODES * SIDE];

        void renew(int newWidth, int newHeight, int newGap) {
            Arrays.fill(rows, 0);
            width = newWidth;
            height = newHeight;
            gap = newGap;
        }

        void setRow(int code, int r, int bits) {
            rows[code * SIDE + r] = bits;
        }

        boolean isDark(int code, int c, int r) {
            return ((rows[code * SIDE + r] >>> (width - 1 - c)) & 1) != 0;
        }
    }

    /**
     * A thick line, told row by row. It is all that lies near its one end, near
     * its other end, or beside it; as it has no dents, its dots in a row reach
     * from the leftmost of these three to the rightmost.
     */
    private static final class Stroke {
        private final int a;
        private final int b;
        private final int c;
        private final int d;
        private final int thickness;
        private final long dx;
        private final long dy;
        private final long squareLength;
        private final long greatestCross;
        int left;
        int right;

        Stroke(int a, int b, int c, int d, int thickness) {
            this.a = a;
            this.b = b;
            this.c = c;
            this.d = d;
            this.thickness = thickness;
            dx = c - a;
            dy = d - b;
            squareLength = dx * dx + dy * dy;
            greatestCross = Reckoning.root((long) thickness * thickness * squareLength / 4);
        }

        /** Leaves left above right if no dot of the row belongs to the line. */
        void cross(int row) {
            left = Reckoning.FAR;
            right = -Reckoning.FAR;
            widenByEnd(a, row - b);
            widenByEnd(c, row - d);
            if (squareLength > 0) {
                widenBySide(row - b);
            }
        }

        private void widenByEnd(int x, int away) {
            int rest = thickness * thickness - 4 * away * away;
            if (rest >= 0) {
                int reach = (int) Reckoning.root(rest / 4);
                widen(x - reach, x + reach);
            }
        }

        /** Beside the line is what lies between its ends by the scalar product, and near it by the cross product. */
        private void widenBySide(int away) {
            long before = -away * dy;
            long beside = away * dx;
            int first = Math.max(Reckoning.leastFactor(dx, before, before + squareLength),
                    Reckoning.leastFactor(dy, beside - greatestCross, beside + greatestCross));
            int last = Math.min(Reckoning.greatestFactor(dx, before, before + squareLength),
                    Reckoning.greatestFactor(dy, beside - greatestCross, beside + greatestCross));
            if (first <= last) {
                widen(a + first, a + last);
            }
        }

        private void widen(int from, int to) {
            left = Math.min(left, from);
            right = Math.max(right, to);
        }
    }

    /** Whole numbers alone, so that a dot on the very edge of a figure is never lost. */
    private static final class Reckoning {
        /** Farther than any dot of a sheet can be from a coordinate. */
        static final int FAR = 1 << 20;
        /** Roots are asked for up to 100 times the longest line, which is below twice this. */
        private static final long HIGHEST_ROOT_BIT = 1L << 20;

        /** The greatest number whose square is not above n. */
        static long root(long n) {
            long root = 0;
            for (long bit = HIGHEST_ROOT_BIT; bit > 0; bit >>= 1) {
                long next = root + bit;
                if (next * next <= n) {
                    root = next;
                }
            }
            return root;
        }

        /** The greatest u with (u h)^2 + (v w)^2 not above (w h)^2; NONE if there is none. */
        static int ellipseReach(int w, int h, int v) {
            if (w <= 0 || h <= 0 || Math.abs(v) > h) {
                return NONE;
            }
            long squareHeight = (long) h * h;
            return (int) root((long) w * w * (squareHeight - (long) v * v) / squareHeight);
        }

        /** The first dot behind x with u = 2 (px - x) - (w - 1) not below -reach. */
        static int firstStep(int w, int reach) {
            return Math.floorDiv(w - reach, 2);
        }

        /** The last dot behind x with u = 2 (px - x) - (w - 1) not above reach. */
        static int lastStep(int w, int reach) {
            return Math.floorDiv(w - 1 + reach, 2);
        }

        /** The least whole q with k q from least to greatest; FAR if there is none, -FAR if all are fine. */
        static int leastFactor(long k, long least, long greatest) {
            if (k == 0) {
                return least <= 0 && greatest >= 0 ? -FAR : FAR;
            }
            return nearer(-Math.floorDiv(k > 0 ? -least : -greatest, k));
        }

        /** The greatest whole q with k q from least to greatest; -FAR if there is none, FAR if all are fine. */
        static int greatestFactor(long k, long least, long greatest) {
            if (k == 0) {
                return least <= 0 && greatest >= 0 ? FAR : -FAR;
            }
            return nearer(Math.floorDiv(k > 0 ? greatest : least, k));
        }

        private static int nearer(long factor) {
            return (int) Math.max(-FAR, Math.min(FAR, factor));
        }
    }
}
