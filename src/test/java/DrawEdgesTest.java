/** The sentences of the promises 8 to 12 that name an edge, one test for each. */
public final class DrawEdgesTest {
    private static final int[] SIDES = {32, 64, 128, 256};
    private static final Check CHECK = new Check();

    public static void main(String[] args) {
        p8IfUOrVIsNotInBounds();
        p8FromNowOn();
        p9IfThereIsNoSuchGlyph();
        p9IfThereIsNoSuchPoint();
        p9IfThereIsNoSuchWhat();
        p9OfAnEmptyOutline();
        p9OfAFullOutline();
        p10IfItIsNotInBounds();
        p10IfItWasTold();
        p10IfThereAre8();
        p11IfThereIsNoSuchGlyph();
        p11IfThereIsNoSuchSide();
        p11OfAnEmptyOutline();
        p11OfAFullOutline();
        p11TheOutlineAsItIsInTheInstance();
        p12IfThereIsNoneSuch();
        p12IfNothingWasDrawn();
        p12AsItWasDrawnLast();
        CHECK.end();
    }

    /** So many glyphs, each a square of 64 units. */
    private static TypeFoundry squares(int masters, int glyphs) {
        TypeFoundry x = new TypeFoundry(masters);
        for (int i = 0; i < glyphs; i++) {
            Shapes.polygon(x, 0, 0, 64, 0, 64, 64, 0, 64);
        }
        return x;
    }

    // Promise 8

    private static void p8IfUOrVIsNotInBounds() {
        for (int masters : new int[] {1, 2, 4}) {
            CHECK.bounds("8: u", () -> squares(masters, 1), u -> Call.instance(u, 0), 0, 1024, true, false);
            CHECK.bounds("8: v", () -> squares(masters, 1), v -> Call.instance(0, v), 0, 1024, true, false);
            CHECK.bounds("8: v, u at its most", () -> squares(masters, 1), v -> Call.instance(1024, v), 0, 1024, true,
                false);
            CHECK.answer("8: neither", squares(masters, 1), Call.instance(-1, 1025), false);
        }
    }

    private static void p8FromNowOn() {
        TypeFoundry x = squares(4, 1);
        for (int master = 0; master < 4; master++) {
            x.advance(0, master, 1000 + master);
            x.place(0, 0, master, 100 + master, 200 + master);
        }
        int[][] corners = {{0, 0}, {1024, 0}, {0, 1024}, {1024, 1024}};
        for (int master = 0; master < 4; master++) {
            if (master > 0) {
                CHECK.answer("8: from now on", x, Call.instance(corners[master][0], corners[master][1]), true);
            }
            CHECK.answer("8: width", x, Call.outline(0, -1, 2), 1000 + master);
            CHECK.answer("8: x", x, Call.outline(0, 0, 0), 100 + master);
            CHECK.answer("8: y", x, Call.outline(0, 0, 1), 200 + master);
        }
    }

    // Promise 9

    private static void p9IfThereIsNoSuchGlyph() {
        for (int k : new int[] {-1, 0, 3}) {
            int due = k == -1 ? 4 : 0;
            CHECK.bounds("9: glyph", () -> squares(1, 3), g -> Call.outline(g, k, 0), 0, 2, due, Call.INDEX);
        }
    }

    private static void p9IfThereIsNoSuchPoint() {
        TypeFoundry x = squares(1, 2);
        x.component(1, 0, 1000, 0, 0);
        x.point(1, 7, 7, true);
        int[][] lastAndX = {{0, 3, 0}, {1, 7, 1000}};
        for (int what = 0; what <= 3; what++) {
            for (int[] row : lastAndX) {
                CHECK.answer("9: one behind the last", x, Call.outline(row[0], row[1] + 1, what), Call.INDEX);
                CHECK.answer("9: far behind it", x, Call.outline(row[0], Integer.MAX_VALUE, what), Call.INDEX);
                CHECK.answer("9: ahead of NONE", x, Call.outline(row[0], -2, what), Call.INDEX);
                CHECK.answer("9: far ahead", x, Call.outline(row[0], Integer.MIN_VALUE, what), Call.INDEX);
            }
        }
        CHECK.answer("9: the first", x, Call.outline(0, 0, 1), 0);
        CHECK.answer("9: the last", x, Call.outline(0, 3, 1), 64);
        CHECK.answer("9: the last of its own", x, Call.outline(1, 3, 0), 0);
        CHECK.answer("9: the first of its component", x, Call.outline(1, 4, 0), 1000);
        CHECK.answer("9: the last of all", x, Call.outline(1, 7, 1), 64);
    }

    private static void p9IfThereIsNoSuchWhat() {
        int[] ofAll = {4, 1, 0, 0};
        int[] ofPoint2 = {64, 64, 1, 0};
        for (int what = 0; what <= 3; what++) {
            CHECK.answer("9: what", squares(1, 1), Call.outline(0, -1, what), ofAll[what]);
            CHECK.answer("9: what", squares(1, 1), Call.outline(0, 2, what), ofPoint2[what]);
        }
        for (int what : new int[] {-1, 4, Integer.MIN_VALUE, Integer.MAX_VALUE}) {
            CHECK.answer("9: no such what", squares(1, 1), Call.outline(0, -1, what), Call.INDEX);
            CHECK.answer("9: no such what", squares(1, 1), Call.outline(0, 2, what), Call.INDEX);
            CHECK.answer("9: no such what nor point", squares(1, 1), Call.outline(0, 4, what), Call.INDEX);
        }
    }

    private static void p9OfAnEmptyOutline() {
        TypeFoundry x = new TypeFoundry(1);
        Shapes.glyphs(x, 2);
        Shapes.open(x, 0, true, 1, 1, 2, 2, 3, 4);
        x.component(1, 0, 0, 0, 0);
        int[] depths = {0, 1};
        for (int glyph = 0; glyph < 2; glyph++) {
            CHECK.answer("9: no points, they are open", x, Call.outline(glyph, -1, 0), 0);
            CHECK.answer("9: no contours", x, Call.outline(glyph, -1, 1), 0);
            CHECK.answer("9: depth", x, Call.outline(glyph, -1, 3), depths[glyph]);
            CHECK.answer("9: no point 0", x, Call.outline(glyph, 0, 0), Call.INDEX);
        }
    }

    private static void p9OfAFullOutline() {
        TypeFoundry x = new TypeFoundry(1);
        int forty = Shapes.ofPoints(x, 40);
        int all = Shapes.ofPoints(x, 40);
        for (int i = 0; i < 3; i++) {
            x.component(all, forty, 1000 * i, 0, 4 * i % 8);
        }
        CHECK.answer("9: 160 points", x, Call.outline(all, -1, 0), 160);
        CHECK.answer("9: 4 contours", x, Call.outline(all, -1, 1), 4);
        int[] first = {0, 0, 1000 - 39, 2000};
        int[] last = {39, 39, 1000, 2039};
        for (int c = 0; c < 4; c++) {
            CHECK.answer("9: first of contour " + c, x, Call.outline(all, 40 * c, 0), first[c]);
            CHECK.answer("9: last of contour " + c, x, Call.outline(all, 40 * c + 39, 0), last[c]);
            CHECK.answer("9: its number", x, Call.outline(all, 40 * c, 3), c);
            CHECK.answer("9: its number", x, Call.outline(all, 40 * c + 39, 3), c);
        }
        CHECK.answer("9: none behind", x, Call.outline(all, 160, 0), Call.INDEX);
    }

    // Promise 10

    private static void p10IfItIsNotInBounds() {
        CHECK.bounds("10: y", () -> new TypeFoundry(1), Call::height, -2000, 4000, true, false);
    }

    private static void p10IfItWasTold() {
        TypeFoundry x = new TypeFoundry(1);
        int[] ys = {0, 4000, -2000, 7, 6, 8};
        for (int i = 0; i < ys.length; i++) {
            CHECK.answer("10: new", x, Call.height(ys[i]), true);
            for (int k = 0; k <= i; k++) {
                CHECK.answer("10: was told", x, Call.height(ys[k]), false);
            }
            CHECK.answer("10: counted once", x, Call.count(2), i + 1);
        }
    }

    private static void p10IfThereAre8() {
        TypeFoundry x = new TypeFoundry(1);
        for (int i = 0; i < 8; i++) {
            CHECK.answer("10: one more", x, Call.height(100 * (i * 3 % 8)), true);
        }
        for (int y : new int[] {-2000, 1, 650, 701, 4000}) {
            CHECK.answer("10: there are 8", x, Call.height(y), false);
        }
        CHECK.answer("10: there are 8, and it was told", x, Call.height(100), false);
        CHECK.answer("10: there are 8, and it is not in bounds", x, Call.height(4001), false);
        CHECK.answer("10: 8", x, Call.count(2), 8);
    }

    // Promise 11

    private static void p11IfThereIsNoSuchGlyph() {
        for (int side : SIDES) {
            int grey = side <= 64 ? 255 * 64 / side * 64 / side : (255 * 64 * 64 + side * side / 2) / (side * side);
            CHECK.bounds("11: glyph", () -> squares(1, 3), g -> Call.draw(g, side, false), 0, 2, grey, Call.ARGUMENT);
            CHECK.bounds("11: glyph", () -> squares(1, 3), g -> Call.draw(g, side, true), 0, 2, grey, Call.ARGUMENT);
        }
    }

    private static void p11IfThereIsNoSuchSide() {
        TypeFoundry x = squares(1, 1);
        for (int side = -260; side <= 0; side++) {
            CHECK.answer("11: side", x, Call.draw(0, side, false), Call.ARGUMENT);
        }
        TypeFoundry y = squares(1, 1);
        for (int side = 1; side <= 300; side++) {
            boolean isSide = side == 32 || side == 64 || side == 128 || side == 256;
            boolean got = !Call.draw(0, side, false).on(y).equals(Call.ARGUMENT);
            CHECK.note("11: side " + side, Boolean.toString(got), Boolean.toString(isSide));
        }
        for (int side : new int[] {512, 1024, 2048, Integer.MIN_VALUE, Integer.MAX_VALUE, 32 + (1 << 16)}) {
            CHECK.answer("11: side", y, Call.draw(0, side, true), Call.ARGUMENT);
            CHECK.answer("11: neither", y, Call.draw(1, side, true), Call.ARGUMENT);
        }
    }

    private static void p11OfAnEmptyOutline() {
        TypeFoundry x = new TypeFoundry(1);
        Shapes.glyphs(x, 2);
        Shapes.open(x, 0, true, 0, 0, 64, 0, 64, 64);
        x.height(30);
        for (int side : SIDES) {
            CHECK.answer("11: an open contour is not drawn", x, Call.draw(0, side, false), 0);
            CHECK.answer("11: nor fitted", x, Call.draw(0, side, true), 0);
            CHECK.answer("11: drawn it is", x, Call.pixel(2048 / side - 1, 0), 0);
            CHECK.answer("11: nothing at all", x, Call.draw(1, side, false), 0);
        }
    }

    /** 160 points off the outline: a circle of its own, and three of them turned on top of it. */
    private static void p11OfAFullOutline() {
        TypeFoundry x = new TypeFoundry(1);
        for (int glyph = 0; glyph < 2; glyph++) {
            x.glyph();
            for (int i = 0; i < 40; i++) {
                double turn = 2 * Math.PI * i / 40;
                x.point(glyph, (int) (900 * Math.cos(turn)), (int) (900 * Math.sin(turn)), false);
            }
            x.close(glyph);
        }
        int[] turns = {0, 5, 2};
        for (int turn : turns) {
            x.component(1, 0, 1000, 1000, turn);
        }
        x.draw(1, 256, false);
        CHECK.answer("11: 160 points", x, Call.outline(1, -1, 0), 160);
        CHECK.answer("11: within", x, Call.pixel(4, 4), 255);
        CHECK.answer("11: within its own", x, Call.pixel(0, 0), 255);
        CHECK.answer("11: without", x, Call.pixel(7, 7), 0);
    }

    /**
     * A glyph composed of another one, turned each way, is drawn as one that has the points of its outline: so it is
     * rounded, gone through, and fitted where it stands, not where its component does.
     */
    private static void p11TheOutlineAsItIsInTheInstance() {
        for (int turn = 0; turn < 8; turn++) {
            for (int side : SIDES) {
                drawnAsItsOutline(turn, side, false);
                drawnAsItsOutline(turn, side, true);
            }
        }
    }

    private static void drawnAsItsOutline(int turn, int side, boolean fitted) {
        TypeFoundry x = composed(turn);
        Shapes.glyphs(x, 1);
        for (int contour = 0; contour < 2; contour++) {
            for (int k = 6 * contour; k < 6 * contour + 6; k++) {
                x.point(2, x.outline(1, k, 0), x.outline(1, k, 1), x.outline(1, k, 2) == 1);
            }
            x.close(2);
        }
        String what = "11: turn " + turn + (fitted ? ", fitted" : "");
        int sum = x.draw(2, side, fitted);
        int[] greys = new int[100];
        for (int i = 0; i < 100; i++) {
            greys[i] = x.pixel(i % 10 * 5, i / 10 * 5);
        }
        CHECK.answer(what, x, Call.draw(1, side, fitted), sum);
        for (int i = 0; i < 100; i++) {
            CHECK.answer(what, x, Call.pixel(i % 10 * 5, i / 10 * 5), greys[i]);
        }
    }

    /** Glyph 1: two contours of glyph 0, one of them off the outline all round, with halves everywhere. */
    private static TypeFoundry composed(int turn) {
        TypeFoundry x = new TypeFoundry(2);
        Shapes.glyphs(x, 2);
        Shapes.contour(x, 0, false, 301, 0, 430, 151, 300, 420, 11, 431, -120, 210, -21, 30);
        Shapes.alternating(x, 0, -300, -301, -20, -400, 1, -221, 50, -37, -251, 24, -333, -88);
        for (int point = 0; point < 12; point++) {
            x.place(0, point, 1, 37 * point - 200, 300 - 21 * point);
        }
        x.instance(128, 0);
        x.component(1, 0, 777, 901, turn);
        for (int y : new int[] {300, 700, 1010, 1300}) {
            x.height(y);
        }
        return x;
    }

    // Promise 12

    private static void p12IfThereIsNoneSuch() {
        for (int side : SIDES) {
            int last = 2048 / side - 1;
            TypeFoundry x = new TypeFoundry(1);
            Shapes.polygon(x, 0, 0, 2048, 0, 2048, 2048, 0, 2048);
            CHECK.answer("12: all of them", x, Call.draw(0, side, false), 255 * (last + 1) * (last + 1));
            int[] taken = {0, last};
            for (int i : taken) {
                for (int j : taken) {
                    CHECK.answer("12: a corner", x, Call.pixel(i, j), 255);
                }
                for (int far : new int[] {-1, last + 1, Integer.MIN_VALUE, Integer.MAX_VALUE}) {
                    CHECK.answer("12: no such i", x, Call.pixel(far, i), TypeFoundry.NONE);
                    CHECK.answer("12: no such j", x, Call.pixel(i, far), TypeFoundry.NONE);
                    CHECK.answer("12: neither", x, Call.pixel(far, far), TypeFoundry.NONE);
                }
            }
        }
    }

    private static void p12IfNothingWasDrawn() {
        TypeFoundry x = squares(1, 1);
        for (int i : new int[] {-1, 0, 1, 7, 63, 64, Integer.MAX_VALUE}) {
            CHECK.answer("12: nothing was drawn", x, Call.pixel(i, i), TypeFoundry.NONE);
        }
        Call.draw(0, 31, false).on(x);
        CHECK.answer("12: nor by a draw that was refused", x, Call.pixel(0, 0), TypeFoundry.NONE);
        Call.draw(1, 32, false).on(x);
        CHECK.answer("12: nor by another one", x, Call.pixel(0, 0), TypeFoundry.NONE);
    }

    private static void p12AsItWasDrawnLast() {
        TypeFoundry x = squares(2, 2);
        x.height(16);
        x.draw(0, 32, false);
        x.instance(1024, 0);
        x.place(0, 2, 1, 2048, 2048);
        x.close(0);
        x.height(3);
        x.glyph();
        x.component(2, 0, 0, 0, 0);
        CHECK.answer("12: as it was drawn", x, Call.pixel(1, 1), 255);
        CHECK.answer("12: as it was drawn", x, Call.pixel(2, 2), 0);
        CHECK.answer("12: of another side", x, Call.draw(1, 256, false), 16);
        CHECK.answer("12: the last one", x, Call.pixel(0, 0), 16);
        CHECK.answer("12: the last one's side", x, Call.pixel(8, 0), TypeFoundry.NONE);
        x.draw(1, 32, true);
        CHECK.answer("12: the last one's greys, fitted from -3 to 80", x, Call.pixel(0, 2), 128);
        CHECK.answer("12: no pixel is left of another side", x, Call.pixel(63, 63), 0);
    }
}
