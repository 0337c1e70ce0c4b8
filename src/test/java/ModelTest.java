/**
 * Long runs of calls, compared with a sheet that is kept dot by dot and asks
 * of every dot, in the document's words, whether it belongs to the figure.
 */
public final class ModelTest {
    private static final int MOST_CALLS = 512;
    private static final int ILLEGAL_ARGUMENT = -1001;
    private static final int ILLEGAL_STATE = -1002;
    private static final int INDEX_OUT_OF_BOUNDS = -1003;

    private static int wrong = 0;
    private static long seed = 1;

    private interface Call {
        long answer();
    }

    private interface Figure {
        boolean has(int px, int py);
    }

    public static void main(String[] args) {
        for (int run = 1; run <= 700 && wrong < 20; run++) {
            seed = run;
            int side = run % 50 == 0 ? 1024 : run % 5 == 0 ? 200 : 70;
            new ModelTest().playRun(run, side);
        }
        System.exit(wrong == 0 ? 0 : 1);
    }

    private final DotSheet sheet = new DotSheet();
    private final Model model = new Model();
    private int calls = 0;
    private int run = 0;

    private void playRun(int number, int side) {
        run = number;
        int w = among(1, side);
        int h = among(1, side);
        if (number % 7 != 0) {
            same("sheet(" + w + ", " + h + ")", () -> done(() -> sheet.sheet(w, h)), () -> model.sheet(w, h));
        }
        int most = side == 1024 ? 60 : 300;
        while (calls < most) {
            playCall(side);
        }
        for (int y = 0; y < model.height; y++) {
            for (int x = 0; x < model.width; x += 64) {
                if (calls < MOST_CALLS) {
                    playDots(x, y, 64);
                }
            }
        }
    }

    private void playCall(int side) {
        switch (among(0, 21)) {
            case 0: playSheet(side); break;
            case 1: { int way = among(-1, 3); same("way(" + way + ")", () -> sheet.way(way), () -> model.way(way)); break; }
            case 2: case 3: case 4: case 5: playWrite(); break;
            case 6: if (among(0, 9) == 0) { same("wipe()", sheet::wipe, model::wipe); } break;
            case 7: playFrame(side); break;
            case 8: case 9: playLine(side); break;
            case 10: case 11: playEllipse(side); break;
            case 12: playFont(); break;
            case 13: case 14: playCell(); break;
            case 15: playText(side); break;
            case 16: playBars(side); break;
            case 17: playSquare(side); break;
            case 18: playPicture(side); break;
            case 19: { int q = among(-1, 4); same("turn(" + q + ")", () -> done(() -> sheet.turn(q)), () -> model.turn(q)); break; }
            case 20: playCount(side); break;
            default: playRunAsked(side); break;
        }
        int what = among(-1, 7);
        same("told(" + what + ")", () -> sheet.told(what), () -> model.told(what));
        playDots(place(side), place(side), among(0, 65));
    }

    private void playSheet(int side) {
        if (among(0, 5) == 0) {
            int w = size(side, 1024);
            int h = size(side, 1024);
            same("sheet(" + w + ", " + h + ")", () -> done(() -> sheet.sheet(w, h)), () -> model.sheet(w, h));
        }
    }

    private void playWrite() {
        int n = among(0, 30) == 0 ? among(0, 1) * 9 : among(1, 8);
        long bytes = among(0, 1) == 0 ? next() : next() & 0x0303030303030303L;
        same("write(" + n + ", " + bytes + ")", () -> sheet.write(n, bytes), () -> model.write(n, bytes));
    }

    private void playFrame(int side) {
        int x = place(side), y = place(side), w = size(side, 2048), h = size(side, 2048), t = thickness();
        same("frame(" + x + ", " + y + ", " + w + ", " + h + ", " + t + ")",
                () -> sheet.frame(x, y, w, h, t), () -> model.frame(x, y, w, h, t));
    }

    private void playLine(int side) {
        int a = place(side), b = place(side), t = thickness();
        int c = among(0, 4) == 0 ? a : place(side), d = among(0, 4) == 0 ? b : place(side);
        same("line(" + a + ", " + b + ", " + c + ", " + d + ", " + t + ")",
                () -> sheet.line(a, b, c, d, t), () -> model.line(a, b, c, d, t));
    }

    private void playEllipse(int side) {
        int x = place(side), y = place(side), w = size(side, 2048), h = size(side, 2048), t = thickness();
        same("ellipse(" + x + ", " + y + ", " + w + ", " + h + ", " + t + ")",
                () -> sheet.ellipse(x, y, w, h, t), () -> model.ellipse(x, y, w, h, t));
    }

    private void playFont() {
        int f = among(-1, 4), w = small(32), h = small(32), gap = among(0, 20) == 0 ? among(-1, 33) : among(0, 3);
        same("font(" + f + ", " + w + ", " + h + ", " + gap + ")",
                () -> done(() -> sheet.font(f, w, h, gap)), () -> model.font(f, w, h, gap));
    }

    private void playCell() {
        int f = among(-1, 4), r = among(-1, 33), bits = (int) next();
        int code = among(0, 20) == 0 ? among(0, 1) * 257 - 1 : model.someCode(among(0, 4095), among(0, 255));
        same("cell(" + f + ", " + code + ", " + r + ", " + bits + ")",
                () -> done(() -> sheet.cell(f, code, r, bits)), () -> model.cell(f, code, r, bits));
    }

    private void playText(int side) {
        int x = place(side), y = place(side), f = among(0, 3), quarter = quarter();
        int scales = among(0, 8) == 0 ? among(-20, 300) : among(1, 3) * 16 + among(1, 3);
        same("text(" + x + ", " + y + ", " + f + ", " + scales + ", " + quarter + ")",
                () -> sheet.text(x, y, f, scales, quarter), () -> model.text(x, y, f, scales, quarter));
    }

    private void playBars(int side) {
        int x = place(side), y = place(side), h = size(side, 2048), m = small(50), quarter = quarter();
        same("bars(" + x + ", " + y + ", " + h + ", " + m + ", " + quarter + ")",
                () -> sheet.bars(x, y, h, m, quarter), () -> model.bars(x, y, h, m, quarter));
    }

    private void playSquare(int side) {
        int x = place(side), y = place(side), n = small(177), m = small(50), quarter = quarter();
        same("square(" + x + ", " + y + ", " + n + ", " + m + ", " + quarter + ")",
                () -> sheet.square(x, y, n, m, quarter), () -> model.square(x, y, n, m, quarter));
    }

    private void playPicture(int side) {
        int x = place(side), y = place(side), w = among(0, 2) == 0 ? size(side, 2048) : among(1, 24);
        same("picture(" + x + ", " + y + ", " + w + ")", () -> sheet.picture(x, y, w), () -> model.picture(x, y, w));
    }

    private void playCount(int side) {
        int x = place(side), y = place(side), w = size(side, 2048), h = size(side, 2048);
        same("count(" + x + ", " + y + ", " + w + ", " + h + ")",
                () -> sheet.count(x, y, w, h), () -> model.count(x, y, w, h));
    }

    private void playDots(int x, int y, int many) {
        same("dots(" + x + ", " + y + ", " + many + ")", () -> sheet.dots(x, y, many), () -> model.dots(x, y, many));
    }

    private void playRunAsked(int side) {
        int x = among(0, 4) == 0 ? place(side) : among(0, model.width - 1);
        int y = among(0, 4) == 0 ? place(side) : among(0, model.height - 1);
        int i = among(0, 20) == 0 ? (int) next() : among(-1, 6);
        boolean down = among(0, 1) == 0;
        same("run(" + x + ", " + y + ", " + i + ", " + down + ")",
                () -> sheet.run(x, y, i, down), () -> model.run(x, y, i, down));
    }

    private static int place(int side) {
        int kind = among(0, 60);
        if (kind == 0) {
            return among(0, 1) == 0 ? among(-4098, -4094) : among(4094, 4098);
        }
        return kind < 6 ? among(-4096, 4096) : among(-side / 2, side + side / 2);
    }

    private static int size(int side, int greatest) {
        int kind = among(0, 60);
        if (kind == 0) {
            return among(0, 1) == 0 ? among(-1, 1) : among(greatest - 1, greatest + 1);
        }
        return kind < 8 ? among(1, 8) : among(1, Math.min(side + side / 2, greatest));
    }

    private static int small(int greatest) {
        int kind = among(0, 20);
        return kind == 0 ? among(-1, greatest + 1) : kind < 5 ? among(1, greatest) : among(1, 9);
    }

    private static int thickness() {
        int kind = among(0, 40);
        return kind == 0 ? among(0, 1) * 201 : kind < 6 ? among(1, 200) : among(1, 12);
    }

    private static int quarter() {
        return among(0, 15) == 0 ? among(-1, 4) : among(0, 3);
    }

    private static int among(int least, int greatest) {
        return least + (int) Math.floorMod(next() >> 20, (long) greatest - least + 1);
    }

    private static long next() {
        seed += 0x9E3779B97F4A7C15L;
        long z = (seed ^ seed >>> 30) * 0xBF58476D1CE4E5B9L;
        z = (z ^ z >>> 27) * 0x94D049BB133111EBL;
        return z ^ z >>> 31;
    }

    private static long done(Runnable call) {
        call.run();
        return 0;
    }

    private void same(String call, Call asked, Call due) {
        long got;
        try {
            got = asked.answer();
        } catch (IllegalArgumentException e) {
            got = ILLEGAL_ARGUMENT;
        } catch (IllegalStateException e) {
            got = ILLEGAL_STATE;
        } catch (IndexOutOfBoundsException e) {
            got = e.getClass() == IndexOutOfBoundsException.class ? INDEX_OUT_OF_BOUNDS : -9999;
        }
        calls++;
        long want = due.answer();
        if (got != want) {
            wrong++;
            System.out.println("run " + run + ", call " + calls + ": " + call + " answered " + got + ", due is " + want);
        }
    }

    private static final class Model {
        int width = 64;
        int height = 64;
        boolean[][] dark = new boolean[64][64];
        int way = 0;
        int[] draft = new int[4096];
        int size = 0;
        int[] fontWidth = {8, 8, 8, 8};
        int[] fontHeight = {8, 8, 8, 8};
        int[] fontGap = {0, 0, 0, 0};
        boolean[][][][] cells = new boolean[4][256][32][32];

        private static boolean outside(int value, int least, int greatest) {
            return value < least || value > greatest;
        }

        private static boolean noPlace(int value) {
            return outside(value, -4096, 4096);
        }

        private static boolean noSize(int value) {
            return outside(value, 1, 2048);
        }

        int someCode(int k, int otherwise) {
            return k % 2 == 0 && size > 0 ? draft[k % size] : otherwise;
        }

        long sheet(int w, int h) {
            if (outside(w, 1, 1024) || outside(h, 1, 1024)) {
                return ILLEGAL_ARGUMENT;
            }
            width = w;
            height = h;
            dark = new boolean[h][w];
            return 0;
        }

        long way(int next) {
            if (outside(next, 0, 2)) {
                return ILLEGAL_ARGUMENT;
            }
            int before = way;
            way = next;
            return before;
        }

        long write(int n, long bytes) {
            if (outside(n, 1, 8)) {
                return ILLEGAL_ARGUMENT;
            }
            if (size + n > 4096) {
                return -1;
            }
            for (int k = 0; k < n; k++) {
                draft[size++] = (int) (bytes >> 8 * k & 255);
            }
            return size;
        }

        long wipe() {
            int before = size;
            size = 0;
            return before;
        }

        private long draw(Figure figure) {
            int many = 0;
            for (int y = 0; y < height; y++) {
                for (int x = 0; x < width; x++) {
                    if (figure.has(x, y)) {
                        many++;
                        dark[y][x] = way == 0 || way == 2 && !dark[y][x];
                    }
                }
            }
            return many;
        }

        long frame(int x, int y, int w, int h, int t) {
            if (noPlace(x) || noPlace(y) || noSize(w) || noSize(h) || outside(t, 1, 200)) {
                return ILLEGAL_ARGUMENT;
            }
            return draw((px, py) -> px >= x && px < x + w && py >= y && py < y + h
                    && !(px >= x + t && px <= x + w - 1 - t && py >= y + t && py <= y + h - 1 - t));
        }

        long line(int a, int b, int c, int d, int t) {
            if (noPlace(a) || noPlace(b) || noPlace(c) || noPlace(d) || outside(t, 1, 200)) {
                return ILLEGAL_ARGUMENT;
            }
            return draw((px, py) -> isNear(px - a, py - b, c - a, d - b, t));
        }

        private static boolean isNear(long px, long py, long dx, long dy, long t) {
            long length = dx * dx + dy * dy;
            long along = px * dx + py * dy;
            if (along <= 0) {
                return 4 * (px * px + py * py) <= t * t;
            }
            if (along >= length) {
                return 4 * ((px - dx) * (px - dx) + (py - dy) * (py - dy)) <= t * t;
            }
            long cross = px * dy - py * dx;
            return 4 * cross * cross <= t * t * length;
        }

        long ellipse(int x, int y, int w, int h, int t) {
            if (noPlace(x) || noPlace(y) || noSize(w) || noSize(h) || outside(t, 1, 200)) {
                return ILLEGAL_ARGUMENT;
            }
            return draw((px, py) -> {
                long u = 2 * (px - x) - (w - 1);
                long v = 2 * (py - y) - (h - 1);
                return isIn(u, v, w, h)
                        && !(w - 2 * t > 0 && h - 2 * t > 0 && isIn(u, v, w - 2 * t, h - 2 * t));
            });
        }

        private static boolean isIn(long u, long v, long w, long h) {
            return u * h * u * h + v * w * v * w <= w * h * w * h;
        }

        long font(int f, int w, int h, int gap) {
            if (outside(f, 0, 3) || outside(w, 1, 32) || outside(h, 1, 32) || outside(gap, 0, 32)) {
                return ILLEGAL_ARGUMENT;
            }
            fontWidth[f] = w;
            fontHeight[f] = h;
            fontGap[f] = gap;
            cells[f] = new boolean[256][32][32];
            return 0;
        }

        long cell(int f, int code, int r, int bits) {
            if (outside(f, 0, 3) || outside(code, 0, 255)) {
                return ILLEGAL_ARGUMENT;
            }
            if (outside(r, 0, fontHeight[f] - 1)) {
                return INDEX_OUT_OF_BOUNDS;
            }
            for (int c = 0; c < fontWidth[f]; c++) {
                cells[f][code][r][c] = (bits >> fontWidth[f] - 1 - c & 1) == 1;
            }
            return 0;
        }

        /** The figure whose steps (i, j) are told, seen from the corner by the quarter. */
        private static Figure seen(int x, int y, int quarter, Figure steps) {
            switch (quarter) {
                case 0: return (px, py) -> steps.has(px - x, py - y);
                case 1: return (px, py) -> steps.has(py - y, x - px);
                case 2: return (px, py) -> steps.has(x - px, y - py);
                default: return (px, py) -> steps.has(y - py, px - x);
            }
        }

        long text(int x, int y, int f, int scales, int quarter) {
            if (noPlace(x) || noPlace(y) || outside(f, 0, 3) || outside(scales, 0, 255) || outside(quarter, 0, 3)
                    || outside(scales / 16, 1, 10) || outside(scales % 16, 1, 10)) {
                return ILLEGAL_ARGUMENT;
            }
            int advance = fontWidth[f] + fontGap[f];
            return draw(seen(x, y, quarter, (i, j) -> {
                if (i < 0 || j < 0) {
                    return false;
                }
                int column = i / (scales / 16);
                int r = j / (scales % 16);
                int k = column / advance;
                int c = column % advance;
                return k < size && c < fontWidth[f] && r < fontHeight[f] && cells[f][draft[k]][r][c];
            }));
        }

        long bars(int x, int y, int h, int m, int quarter) {
            if (noPlace(x) || noPlace(y) || noSize(h) || outside(m, 1, 50) || outside(quarter, 0, 3)) {
                return ILLEGAL_ARGUMENT;
            }
            return draw(seen(x, y, quarter, (i, j) -> i >= 0 && j >= 0 && j < h && isBar(i / m)));
        }

        private boolean isBar(int unit) {
            int end = 0;
            for (int k = 0; k < size; k++) {
                end += draft[k];
                if (unit < end) {
                    return k % 2 == 0;
                }
            }
            return false;
        }

        private boolean bit(int index) {
            return (draft[index / 8] >> 7 - index % 8 & 1) == 1;
        }

        long square(int x, int y, int n, int m, int quarter) {
            if (noPlace(x) || noPlace(y) || outside(n, 1, 177) || outside(m, 1, 50) || outside(quarter, 0, 3)) {
                return ILLEGAL_ARGUMENT;
            }
            if (8 * size < n * n) {
                return ILLEGAL_STATE;
            }
            return draw(seen(x, y, quarter,
                    (i, j) -> i >= 0 && j >= 0 && i < n * m && j < n * m && bit(j / m * n + i / m)));
        }

        long picture(int x, int y, int w) {
            if (noPlace(x) || noPlace(y) || noSize(w)) {
                return ILLEGAL_ARGUMENT;
            }
            int rowBytes = w / 8 + (w % 8 > 0 ? 1 : 0);
            if (size % rowBytes != 0) {
                return ILLEGAL_STATE;
            }
            return draw((px, py) -> px >= x && px < x + w && py >= y && py < y + size / rowBytes
                    && bit((py - y) * rowBytes * 8 + px - x));
        }

        long turn(int quarter) {
            if (outside(quarter, 0, 3)) {
                return ILLEGAL_ARGUMENT;
            }
            for (int i = 0; i < quarter; i++) {
                boolean[][] turned = new boolean[width][height];
                for (int y = 0; y < height; y++) {
                    for (int x = 0; x < width; x++) {
                        turned[x][height - 1 - y] = dark[y][x];
                    }
                }
                dark = turned;
                int before = width;
                width = height;
                height = before;
            }
            return 0;
        }

        long told(int what) {
            int leastX = -1, leastY = -1, greatestX = -1, greatestY = -1, many = 0;
            for (int y = 0; y < height; y++) {
                for (int x = 0; x < width; x++) {
                    if (dark[y][x]) {
                        many++;
                        leastX = leastX < 0 || x < leastX ? x : leastX;
                        leastY = leastY < 0 ? y : leastY;
                        greatestX = x > greatestX ? x : greatestX;
                        greatestY = y;
                    }
                }
            }
            int[] all = {width, height, leastX, leastY, greatestX, greatestY, many};
            return outside(what, 0, 6) ? ILLEGAL_ARGUMENT : all[what];
        }

        private boolean isDark(int x, int y) {
            return x >= 0 && x < width && y >= 0 && y < height && dark[y][x];
        }

        long count(int x, int y, int w, int h) {
            if (noPlace(x) || noPlace(y) || noSize(w) || noSize(h)) {
                return ILLEGAL_ARGUMENT;
            }
            int many = 0;
            for (int py = y; py < y + h; py++) {
                for (int px = x; px < x + w; px++) {
                    many += isDark(px, py) ? 1 : 0;
                }
            }
            return many;
        }

        long dots(int x, int y, int many) {
            if (noPlace(x) || noPlace(y) || outside(many, 1, 64)) {
                return ILLEGAL_ARGUMENT;
            }
            long bits = 0;
            for (int k = 0; k < many; k++) {
                if (isDark(x + k, y)) {
                    bits |= 1L << many - 1 - k;
                }
            }
            return bits;
        }

        long run(int x, int y, int i, boolean down) {
            if (noPlace(x) || noPlace(y)) {
                return ILLEGAL_ARGUMENT;
            }
            if (x < 0 || x >= width || y < 0 || y >= height) {
                return INDEX_OUT_OF_BOUNDS;
            }
            int many = down ? height - y : width - x;
            int start = 0;
            for (int index = 0; start < many; index++) {
                int end = start;
                while (end < many && dotBehind(x, y, end, down) == dotBehind(x, y, start, down)) {
                    end++;
                }
                if (index == i) {
                    return end - start;
                }
                start = end;
            }
            return -1;
        }

        private boolean dotBehind(int x, int y, int k, boolean down) {
            return down ? dark[y + k][x] : dark[y][x + k];
        }
    }
}
