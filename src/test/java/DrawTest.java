/** Promises 10 to 12: height, draw, pixel. */
public final class DrawTest {
    private static final Class<IllegalArgumentException> ARGUMENT = IllegalArgumentException.class;
    private static final Check CHECK = new Check();

    public static void main(String[] args) {
        promise10Height();
        promise11Refused();
        promise11Ways();
        promise11Halves();
        promise11Outside();
        promise11Slopes();
        promise11SlopesAtTheEdges();
        promise11CutInYFirst();
        promise11Quadratics();
        promise11QuadraticElsewhere();
        promise11FortyOff();
        promise11Instance();
        promise11FittedByOneHeight();
        promise11FittedBetween();
        promise11FittedCorners();
        promise11FittedByEightHeights();
        promise12Pixel();
        CHECK.end();
    }

    private static void promise10Height() {
        TypeFoundry x = new TypeFoundry(1);
        CHECK.no("10: below", x.height(-2001));
        CHECK.no("10: above", x.height(4001));
        CHECK.no("10: far below", x.height(Integer.MIN_VALUE));
        CHECK.yes("10: greatest", x.height(4000));
        CHECK.yes("10: least", x.height(-2000));
        CHECK.no("10: told", x.height(4000));
        CHECK.no("10: told, the least", x.height(-2000));
        for (int i = 0; i < 6; i++) {
            CHECK.yes("10: one more", x.height(100 - i));
            CHECK.no("10: told now", x.height(100 - i));
        }
        CHECK.no("10: a ninth", x.height(7));
        CHECK.due("10: count", x.count(2), 8);
    }

    private static void promise11Refused() {
        TypeFoundry x = new TypeFoundry(1);
        CHECK.refused("11: no glyphs", ARGUMENT, () -> x.draw(0, 32, false));
        int a = Shapes.polygon(x, 0, 0, 64, 0, 64, 64, 0, 64);
        CHECK.due("11: drawn", x.draw(a, 64, false), 255);
        for (int side : new int[] {0, -32, 1, 16, 31, 33, 96, 512, 2048, Integer.MIN_VALUE, Integer.MAX_VALUE}) {
            CHECK.refused("11: side " + side, ARGUMENT, () -> x.draw(a, side, false));
        }
        CHECK.refused("11: glyph -1", ARGUMENT, () -> x.draw(-1, 32, false));
        CHECK.refused("11: glyph 1", ARGUMENT, () -> x.draw(1, 32, true));
        CHECK.due("11: what was drawn stays", x.pixel(0, 0), 255);
        CHECK.due("11: and its side", x.pixel(31, 31), 0);
        CHECK.due("11: none beyond", x.pixel(32, 0), TypeFoundry.NONE);
        for (int side = 32; side <= 256; side *= 2) {
            CHECK.due("11: side " + side, x.draw(a, side, false), side <= 64 ? 255L * (64 / side) * (64 / side)
                : (255 * 64 * 64 * 2 + side * side) / (2 * side * side));
        }
    }

    private static void promise11Ways() {
        TypeFoundry x = new TypeFoundry(1);
        int left = Shapes.polygon(x, 32, 32, 96, 32, 96, 96, 32, 96);
        int right = Shapes.polygon(x, 32, 32, 32, 96, 96, 96, 96, 32);
        CHECK.due("11: to the left of what goes up", x.draw(left, 32, false), 4 * 255);
        CHECK.due("11: a grey below 0 is 0", x.draw(right, 32, false), 0);
        int twice = x.glyph();
        x.component(twice, left, 0, 0, 0);
        x.component(twice, left, 0, 0, 0);
        CHECK.due("11: a grey above 255 is 255", x.draw(twice, 32, false), 4 * 255);
        CHECK.due("11: twice a half is a whole", x.draw(twice, 64, false), 2 * 128 + 128 + 128);
        x.component(twice, right, 0, 0, 0);
        CHECK.due("11: two less one", x.draw(twice, 32, false), 4 * 255);
        x.component(twice, right, 0, 0, 0);
        CHECK.due("11: two less two", x.draw(twice, 32, false), 0);
    }

    private static void promise11Halves() {
        TypeFoundry x = new TypeFoundry(1);
        int half = Shapes.polygon(x, 0, 0, 16, 0, 16, 32, 0, 32);
        CHECK.due("11: 127.5 goes up", x.draw(half, 32, false), 128);
        int slope = Shapes.polygon(x, 0, 0, 64, 0, 0, 64);
        CHECK.due("11: a slope", x.draw(slope, 32, false), 255 + 128 + 128);
        CHECK.due("11: under it", x.pixel(0, 0), 255);
        CHECK.due("11: on it", x.pixel(1, 0), 128);
        CHECK.due("11: above it", x.pixel(0, 1), 128);
        CHECK.due("11: beyond it", x.pixel(1, 1), 0);
        int one = Shapes.polygon(x, 0, 0, 1, 0, 1, 2, 0, 2);
        CHECK.due("11: 0.498 goes down", x.draw(one, 32, false), 0);
        int three = Shapes.polygon(x, 0, 0, 3, 0, 3, 1, 0, 1);
        CHECK.due("11: 0.747 goes up", x.draw(three, 32, false), 1);
    }

    private static void promise11Outside() {
        TypeFoundry x = new TypeFoundry(1);
        int vast = Shapes.polygon(x, -2000, -2000, 4000, -2000, 4000, 4000, -2000, 4000);
        CHECK.due("11: all pixels of side 32", x.draw(vast, 32, false), 255 * 64 * 64);
        CHECK.due("11: the last one", x.pixel(63, 63), 255);
        CHECK.due("11: all pixels of side 256", x.draw(vast, 256, false), 255 * 8 * 8);
        int leftOf = Shapes.polygon(x, -500, 0, 0, 0, 0, 500, -500, 500);
        CHECK.due("11: to the left", x.draw(leftOf, 32, false), 0);
        int below = Shapes.polygon(x, 0, -500, 500, -500, 500, 0, 0, 0);
        CHECK.due("11: below", x.draw(below, 32, false), 0);
        int rightOf = Shapes.polygon(x, 2048, 0, 2500, 0, 2500, 500, 2048, 500);
        CHECK.due("11: to the right", x.draw(rightOf, 32, false), 0);
        int above = Shapes.polygon(x, 0, 2048, 500, 2048, 500, 2500, 0, 2500);
        CHECK.due("11: above", x.draw(above, 32, false), 0);
        int over = Shapes.polygon(x, 2000, 2000, 2100, 2000, 2100, 2100, 2000, 2100);
        CHECK.due("11: over the corner", x.draw(over, 256, false), 9);
        int back = Shapes.polygon(x, -40, 40, -40, -40, 40, -40, 40, 40);
        CHECK.due("11: over the other corner", x.draw(back, 32, false), 255 + 64 + 64 + 16);
    }

    /** Lines that pass four pixels, whichever way they lean: 8 of 32 rise in each. */
    private static void promise11Slopes() {
        int[] due = {grey(2 * 896), grey(2 * 640), grey(2 * 384), grey(2 * 128)};
        TypeFoundry x = new TypeFoundry(1);
        int right = Shapes.polygon(x, 0, 0, 128, 32, 0, 32);
        int left = Shapes.polygon(x, 0, 0, 128, 0, 0, 32);
        int steepRight = Shapes.polygon(x, 0, 0, 32, 128, 0, 128);
        int steepLeft = Shapes.polygon(x, 0, 0, 32, 0, 0, 128);
        x.draw(right, 32, false);
        pixelsInX(x, "11: leans right", due);
        x.draw(left, 32, false);
        pixelsInX(x, "11: leans left", due);
        x.draw(steepLeft, 32, false);
        for (int j = 0; j < 4; j++) {
            CHECK.due("11: steep, leans left", x.pixel(0, j), due[j]);
        }
        x.draw(steepRight, 32, false);
        for (int j = 0; j < 4; j++) {
            CHECK.due("11: steep, leans right", x.pixel(0, j), due[3 - j]);
        }
    }

    private static void pixelsInX(TypeFoundry x, String what, int[] due) {
        for (int i = 0; i < due.length; i++) {
            CHECK.due(what, x.pixel(i, 0), due[i]);
        }
    }

    private static void promise11SlopesAtTheEdges() {
        TypeFoundry x = new TypeFoundry(1);
        int left = Shapes.polygon(x, -32, 0, 32, 32, -32, 32);
        CHECK.due("11: over x 0", x.draw(left, 32, false), grey(2 * 16 * 16));
        int right = Shapes.polygon(x, 2016, 0, 2080, 32, 2016, 32);
        CHECK.due("11: over x 2048", x.draw(right, 32, false), grey(2 * (16 * 16 + 16 * 32)));
        CHECK.due("11: in the last pixel", x.pixel(63, 0), grey(2 * (16 * 16 + 16 * 32)));
        int below = Shapes.polygon(x, 0, -32, 32, -32, 32, 0, 0, 32);
        CHECK.due("11: over y 0", x.draw(below, 32, false), grey(2 * 32 * 16));
        int above = Shapes.polygon(x, 0, 2016, 64, 2080, 0, 2080);
        CHECK.due("11: over y 2048", x.draw(above, 32, false), grey(2 * 32 * 16));
        CHECK.due("11: in the last row", x.pixel(0, 63), grey(2 * 32 * 16));
    }

    /**
     * The line from (0, 0) to (39, 64) is cut at (19.5, 32), that is (20, 32). The part from there to (39, 64) is at
     * x 32 at y 52.2, that is 52; the whole line would be there at 52.5, that is 53.
     */
    private static void promise11CutInYFirst() {
        TypeFoundry x = new TypeFoundry(1);
        int a = Shapes.polygon(x, 0, 0, 39, 64, 0, 64);
        int low = grey(32 * 20);
        int high = grey(20 * (20 + 32) + 12 * 64);
        int right = grey(12 * (39 - 32));
        CHECK.due("11: sum", x.draw(a, 32, false), low + high + right);
        CHECK.due("11: (0, 0)", x.pixel(0, 0), low);
        CHECK.due("11: (0, 1)", x.pixel(0, 1), high);
        CHECK.due("11: (1, 1)", x.pixel(1, 1), right);
        CHECK.due("11: (1, 0)", x.pixel(1, 0), 0);
    }

    /** The grey of a pixel of side 32 by twice its cover. */
    private static int grey(int twiceCover) {
        return (255 * twiceCover + 1024) / 2048;
    }

    private static void promise11Quadratics() {
        TypeFoundry x = new TypeFoundry(1);
        int a = Shapes.roundedSquare(x);
        // (15, 1) (28, 4) (39, 9) (48, 16) (55, 25) (60, 36) (63, 49) between (0, 0) and (64, 64)
        int[] xs = {0, 15, 28, 39, 48, 55, 60, 63, 64};
        int[] ys = {0, 1, 4, 9, 16, 25, 36, 49, 64};
        int twice = 0;
        for (int k = 0; k < 8; k++) {
            twice += (ys[k + 1] - ys[k]) * (xs[k] + xs[k + 1]);
        }
        CHECK.due("11: seven points between", x.draw(a, 64, false), (255 * twice + 4096) / 8192);
        int off = x.glyph();
        Shapes.contour(x, off, false, 0, 0, 65, 0, 65, 65, 0, 65);
        int told = x.glyph();
        Shapes.alternating(x, told, 33, 0, 65, 0, 65, 33, 65, 65, 33, 65, 0, 65, 0, 33, 0, 0);
        int sum = x.draw(told, 32, false);
        int[] greys = {x.pixel(0, 0), x.pixel(1, 0), x.pixel(1, 1), x.pixel(2, 1)};
        CHECK.due("11: the middles are on the outline, halves up", x.draw(off, 32, false), sum);
        CHECK.due("11: so (0, 0)", x.pixel(0, 0), greys[0]);
        CHECK.due("11: so (1, 0)", x.pixel(1, 0), greys[1]);
        CHECK.due("11: so (1, 1)", x.pixel(1, 1), greys[2]);
        CHECK.due("11: so (2, 1)", x.pixel(2, 1), greys[3]);
    }

    private static void promise11QuadraticElsewhere() {
        TypeFoundry x = new TypeFoundry(1);
        int[] xs = {0, 64, 64, 0};
        int[] ys = {0, 0, 64, 64};
        int want = 0;
        for (int from = 0; from < 4; from++) {
            int a = x.glyph();
            int shift = from == 0 ? 0 : 128;
            for (int i = from; i < from + 4; i++) {
                x.point(a, xs[i % 4] + shift, ys[i % 4] + shift, i % 4 != 1);
            }
            x.close(a);
            int sum = x.draw(a, 64, false);
            if (from == 0) {
                want = sum;
            }
            CHECK.due("11: told from point " + from + " on", sum, want);
            CHECK.due("11: its pixel", x.pixel(shift / 64, shift / 64), want);
        }
    }

    private static void promise11FortyOff() {
        TypeFoundry x = new TypeFoundry(1);
        int a = x.glyph();
        for (int i = 0; i < 40; i++) {
            x.point(a, i < 20 ? 100 * i : 1900, i < 20 ? 0 : 100 * (i - 20), false);
        }
        x.close(a);
        int b = x.glyph();
        for (int i = 0; i < 3; i++) {
            x.component(b, a, 0, 0, 0);
        }
        x.draw(a, 256, false);
        CHECK.due("11: 40 points off the outline", x.pixel(4, 1), 255);
        CHECK.due("11: to the left of them", x.pixel(1, 6), 0);
        x.draw(b, 256, false);
        CHECK.due("11: 120 points off the outline", x.pixel(4, 1), 255);
        int sum = x.draw(a, 32, false);
        x.height(0);
        CHECK.due("11: 0 is its own goal", x.draw(a, 32, true), sum);
    }

    private static void promise11Instance() {
        TypeFoundry x = new TypeFoundry(2);
        int a = Shapes.polygon(x, 0, 0, 64, 0, 64, 64, 0, 64);
        x.place(a, 1, 1, 128, 0);
        x.place(a, 2, 1, 128, 64);
        CHECK.due("11: in master 0", x.draw(a, 64, false), 255);
        x.instance(1024, 0);
        CHECK.due("12: an instance alone draws nothing", x.pixel(1, 0), 0);
        CHECK.due("11: in master 1", x.draw(a, 64, false), 510);
        x.instance(512, 0);
        CHECK.due("11: between", x.draw(a, 64, false), 255 + 128);
    }

    private static void promise11FittedByOneHeight() {
        TypeFoundry x = new TypeFoundry(1);
        int a = Shapes.polygon(x, 0, 100, 32, 100, 32, 132, 0, 132);
        x.height(112);
        CHECK.due("11: the goal of 112 is 128, halves up", x.draw(a, 32, true), 255);
        CHECK.due("11: from 116 on", x.pixel(0, 3), 96);
        CHECK.due("11: up to 148", x.pixel(0, 4), 159);
        CHECK.due("11: not fitted", x.draw(a, 32, false), 255);
        CHECK.due("11: from 100 on", x.pixel(0, 3), 223);
        CHECK.due("11: another side, its goal is 0", x.draw(a, 256, true), 2);
        TypeFoundry y = new TypeFoundry(1);
        int b = Shapes.polygon(y, 0, 0, 32, 0, 32, 32, 0, 32);
        y.height(-16);
        y.draw(b, 32, true);
        CHECK.due("11: the goal of -16 is 0, halves up", y.pixel(0, 0), 128);
        CHECK.due("11: so the glyph goes up", y.pixel(0, 1), 128);
    }

    private static void promise11FittedBetween() {
        TypeFoundry x = new TypeFoundry(1);
        x.height(100);
        x.height(10);
        x.height(50);
        // The goals of 10, 50, 100 in 32: 0, 64, 96; 30 becomes 32, 75 becomes 80, 5 becomes -5, 105 becomes 101.
        int[][] fromAndTo = {{10, 0}, {50, 64}, {100, 96}, {30, 32}, {75, 80}, {5, -5}, {105, 101}, {11, 2}, {99, 95}};
        int base = -2000;
        for (int[] row : fromAndTo) {
            int a = Shapes.polygon(x, 0, base, 2048, base, 2048, row[0], 0, row[0]);
            int sum = 0;
            for (int j = 0; j < 64; j++) {
                sum += 64 * ((255 * 2 * Math.max(0, Math.min(32, row[1] - 32 * j)) + 32) / 64);
            }
            CHECK.due("11: " + row[0] + " is fitted to " + row[1], x.draw(a, 32, true), sum);
        }
    }

    /** Fitted are the ends of the lines, those on a quadratic too, not the points of the outline. */
    private static void promise11FittedCorners() {
        TypeFoundry x = new TypeFoundry(1);
        int a = Shapes.roundedSquare(x);
        x.height(0);
        x.height(20);
        // The goals of 0 and 20 in 32: 0 and 32; y 1, 4, 9, 16 become 2, 6, 14, 26; from 20 on 12 are added.
        int[] xs = {0, 15, 28, 39, 48, 55, 60, 63, 64};
        int[] ys = {0, 2, 6, 14, 26, 37, 48, 61, 76};
        int b = x.glyph();
        for (int k = 0; k < 9; k++) {
            x.point(b, xs[k], ys[k], true);
        }
        x.point(b, 0, 76, true);
        x.close(b);
        int sum = x.draw(b, 32, false);
        int[] greys = {x.pixel(0, 0), x.pixel(1, 0), x.pixel(0, 1), x.pixel(1, 1), x.pixel(1, 2)};
        CHECK.due("11: fitted", x.draw(a, 32, true), sum);
        CHECK.due("11: (0, 0)", x.pixel(0, 0), greys[0]);
        CHECK.due("11: (1, 0)", x.pixel(1, 0), greys[1]);
        CHECK.due("11: (0, 1)", x.pixel(0, 1), greys[2]);
        CHECK.due("11: (1, 1)", x.pixel(1, 1), greys[3]);
        CHECK.due("11: (1, 2)", x.pixel(1, 2), greys[4]);
    }

    private static void promise11FittedByEightHeights() {
        TypeFoundry x = new TypeFoundry(1);
        for (int i = 8; i > 0; i--) {
            x.height(40 * i);
        }
        // The goals in 32: 32, 96, 128, 160, 192, 256, 288, 320. Above 320 nothing is moved, 300 becomes 304.
        int above = Shapes.polygon(x, 0, 320, 32, 320, 32, 330, 0, 330);
        x.draw(above, 32, true);
        CHECK.due("11: above the eighth", x.pixel(0, 10), grey(2 * 32 * 10));
        int between = Shapes.polygon(x, 0, 300, 32, 300, 32, 320, 0, 320);
        CHECK.due("11: below the eighth", x.draw(between, 32, true), grey(2 * 32 * 16));
        int below = Shapes.polygon(x, 0, 0, 32, 0, 32, 60, 0, 60);
        CHECK.due("11: 0 becomes -8 and 60 becomes 64", x.draw(below, 32, true), 2 * 255);
    }

    private static void promise12Pixel() {
        TypeFoundry x = new TypeFoundry(1);
        int a = Shapes.polygon(x, 0, 0, 2048, 0, 2048, 256, 0, 256);
        CHECK.due("12: nothing was drawn", x.pixel(0, 0), TypeFoundry.NONE);
        for (int side = 32; side <= 256; side *= 2) {
            int across = 2048 / side;
            x.draw(a, side, false);
            CHECK.due("12: first", x.pixel(0, 0), 255);
            CHECK.due("12: last of the first row", x.pixel(across - 1, 0), 255);
            CHECK.due("12: last of all", x.pixel(across - 1, across - 1), 0);
            CHECK.due("12: i is x, j is y", x.pixel(0, across - 1), 0);
            int[][] wrong = {{-1, 0}, {0, -1}, {across, 0}, {0, across}, {Integer.MIN_VALUE, 0},
                {0, Integer.MAX_VALUE}, {Integer.MAX_VALUE, Integer.MAX_VALUE}};
            for (int[] w : wrong) {
                CHECK.due("12: pixel " + w[0] + " " + w[1], x.pixel(w[0], w[1]), TypeFoundry.NONE);
            }
        }
        int empty = x.glyph();
        x.draw(a, 64, false);
        CHECK.due("12: a fresh draw", x.draw(empty, 32, false), 0);
        CHECK.due("12: leaves nothing of the last one", x.pixel(0, 0), 0);
    }
}
