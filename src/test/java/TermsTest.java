/** The sentences of 'Terms' that name an edge, one test for each; those of refused calls stand in RefusedTest. */
public final class TermsTest {
    private static final int[] SIDES = {32, 64, 128, 256};
    private static final Check CHECK = new Check();

    public static void main(String[] args) {
        theInstanceIsAtFirst00();
        halvesUpBetweenTwoMasters();
        halvesUpBetweenFourMasters();
        halvesUpOfWidths();
        lockedGetsNoMore();
        turnsOf4OrMore();
        theLastPointAndTheFirst();
        theLeastContours();
        halvesUpInTheMiddle();
        halvesUpInTheMiddleBelow0();
        sevenPointsLieBetween();
        halvesUpOnAQuadratic();
        halvesUpOnAQuadraticBelow0();
        cutAtYHalvesUp();
        cutAtYBelow0HalvesUp();
        cutAtXHalvesUp();
        eachCutIsOfTheWholeLine();
        notCutAtItsEnds();
        leftRightAndOwn();
        belowAndAboveAndBeside();
        greyHalvesUp();
        greyBelow0AndAbove255();
        goalHalvesUp();
        atOrBelowTheLeastHeight();
        atOrAboveTheGreatestHeight();
        betweenTwoNeighbours();
        twoHeightsOfOneGoal();
        aHeightAloneAndNone();
        beforeInputAfterAtTheEndsOfTheRow();
        theLongestInputThenTheOneToldFirst();
        goesOnBehindThat();
        eachLookupOnWhatTheOneBeforeLeft();
        kerningOfPairElseOfClassesElse0();
        CHECK.end();
    }

    // THE INSTANCE

    private static void theInstanceIsAtFirst00() {
        for (int masters : new int[] {1, 2, 4}) {
            TypeFoundry x = new TypeFoundry(masters);
            Shapes.polygon(x, 1, 2, 3, 4, 5, 6);
            for (int master = 0; master < masters; master++) {
                x.place(0, 0, master, 10 + master, 20 + master);
                x.advance(0, master, 30 + master);
            }
            CHECK.answer("at first (0, 0)", x, Call.outline(0, 0, 0), 10);
            CHECK.answer("at first (0, 0)", x, Call.outline(0, 0, 1), 20);
            CHECK.answer("at first (0, 0)", x, Call.outline(0, -1, 2), 30);
        }
    }

    private static void halvesUpBetweenTwoMasters() {
        int[][] abuAndDue = {
            {0, 1, 511, 0}, {0, 1, 512, 1}, {0, -1, 512, 0}, {0, -1, 513, -1}, {1, 0, 512, 1}, {1, 0, 513, 0},
            {-1, 0, 511, -1}, {-1, 0, 512, 0}, {-2000, 4000, 1024, 4000}, {-2000, 4000, 0, -2000},
            {-2000, 4000, 1, -1994}, {4000, -2000, 1023, -1994}};
        for (int[] row : abuAndDue) {
            for (int v : new int[] {0, 1024}) {
                TypeFoundry x = new TypeFoundry(2);
                Shapes.polygon(x, row[0], 0, 0, row[0], 5, 5);
                x.place(0, 0, 1, row[1], 0);
                x.place(0, 1, 1, 0, row[1]);
                x.instance(row[2], v);
                CHECK.answer("x between " + row[0] + " and " + row[1] + " at " + row[2], x, Call.outline(0, 0, 0),
                    row[3]);
                CHECK.answer("y between " + row[0] + " and " + row[1] + " at " + row[2], x, Call.outline(0, 1, 1),
                    row[3]);
            }
        }
    }

    /** One master has 1 or -1, the others 0: each one's share at a half and next to it. */
    private static void halvesUpBetweenFourMasters() {
        int[][] masterValueUVAndDue = {
            {0, 1, 512, 0, 1}, {0, 1, 513, 0, 0}, {0, 1, 0, 512, 1}, {0, 1, 0, 513, 0}, {0, 1, 512, 1, 0},
            {1, 1, 512, 0, 1}, {1, 1, 511, 0, 0}, {1, 1, 1024, 512, 1}, {1, 1, 1024, 513, 0},
            {2, 1, 0, 512, 1}, {2, 1, 0, 511, 0}, {2, 1, 512, 1024, 1}, {2, 1, 513, 1024, 0},
            {3, 1, 1024, 512, 1}, {3, 1, 1024, 511, 0}, {3, 1, 512, 1024, 1}, {3, 1, 511, 1024, 0},
            {0, -1, 512, 0, 0}, {0, -1, 511, 0, -1}, {1, -1, 512, 0, 0}, {1, -1, 513, 0, -1},
            {2, -1, 0, 512, 0}, {2, -1, 0, 513, -1}, {3, -1, 1024, 512, 0}, {3, -1, 513, 1024, -1},
            {3, 4000, 1024, 1024, 4000}, {3, 4000, 512, 512, 1000}, {3, -2000, 1024, 1024, -2000}};
        for (int[] row : masterValueUVAndDue) {
            TypeFoundry x = new TypeFoundry(4);
            Shapes.polygon(x, 0, 0, 0, 0, 5, 5);
            x.place(0, 0, row[0], row[1], 0);
            x.place(0, 1, row[0], 0, row[1]);
            x.instance(row[2], row[3]);
            String what = row[1] + " in master " + row[0] + " at " + row[2] + ", " + row[3];
            CHECK.answer(what, x, Call.outline(0, 0, 0), row[4]);
            CHECK.answer(what, x, Call.outline(0, 1, 1), row[4]);
        }
    }

    private static void halvesUpOfWidths() {
        int[][] uAndDue = {{0, 0}, {511, 0}, {512, 1}, {1024, 1}};
        for (int[] row : uAndDue) {
            TypeFoundry two = new TypeFoundry(2);
            two.glyph();
            two.advance(0, 1, 1);
            two.instance(row[0], 0);
            CHECK.answer("a width at " + row[0], two, Call.outline(0, -1, 2), row[1]);
            TypeFoundry four = new TypeFoundry(4);
            four.glyph();
            four.advance(0, 3, 1);
            four.instance(1024, row[0]);
            CHECK.answer("a width at 1024, " + row[0], four, Call.outline(0, -1, 2), row[1]);
        }
    }

    // LOCKED, TURN

    private static void lockedGetsNoMore() {
        TypeFoundry x = new TypeFoundry(1);
        Shapes.glyphs(x, 3);
        Shapes.open(x, 0, true, 0, 0, 9, 0, 9, 9);
        x.component(1, 0, 0, 0, 0);
        CHECK.answer("no points", x, Call.point(0, 1, 1, true), Call.STATE);
        CHECK.answer("no contours", x, Call.close(0), false);
        CHECK.answer("no components", x, Call.component(0, 2, 0, 0, 0), Call.STATE);
        CHECK.answer("a place", x, Call.place(0, 2, 0, 8, 8), Call.DONE);
        CHECK.answer("a width", x, Call.advance(0, 0, 8), true);
    }

    private static void turnsOf4OrMore() {
        int[][] turnAndFirst = {{3, 2, -1}, {4, -5, 7}, {7, 7, 5}, {0, 1, 2}};
        for (int[] row : turnAndFirst) {
            TypeFoundry x = new TypeFoundry(1);
            Shapes.polygon(x, 1, 2, 3, 4, 5, 7);
            x.glyph();
            x.component(1, 0, 0, 0, row[0]);
            CHECK.answer("first x, turn " + row[0], x, Call.outline(1, 0, 0), row[1]);
            CHECK.answer("first y, turn " + row[0], x, Call.outline(1, 0, 1), row[2]);
        }
    }

    // A contour is gone through

    /** Draws both and compares the sums, the pixels of the first eight columns and rows, and the first row. */
    private static void drawnAlike(String what, TypeFoundry x, int a, int b, int side, boolean aFitted) {
        int sum = x.draw(b, side, false);
        int[] greys = new int[128];
        for (int i = 0; i < 64; i++) {
            greys[i] = x.pixel(i % 8, i / 8);
            greys[64 + i] = x.pixel(i, 0);
        }
        CHECK.answer(what, x, Call.draw(a, side, aFitted), sum);
        for (int i = 0; i < 64; i++) {
            CHECK.answer(what, x, Call.pixel(i % 8, i / 8), greys[i]);
            CHECK.answer(what, x, Call.pixel(i, 0), greys[64 + i]);
        }
    }

    /** Whichever point a contour is told from, it is the same: so between the last one and the first one, too. */
    private static void theLastPointAndTheFirst() {
        int[] xs = {20, 300, 500, 480, 250, 60, 0};
        int[] ys = {10, 0, 90, 400, 500, 410, 201};
        boolean[] on = {false, false, true, false, true, true, false};
        for (int from = 1; from < 7; from++) {
            TypeFoundry x = new TypeFoundry(1);
            Shapes.glyphs(x, 2);
            for (int i = 0; i < 7; i++) {
                int k = (i + from) % 7;
                x.point(0, xs[i], ys[i], on[i]);
                x.point(1, xs[k], ys[k], on[k]);
            }
            x.close(0);
            x.close(1);
            drawnAlike("told from point " + from, x, 1, 0, 64, false);
        }
    }

    private static void theLeastContours() {
        TypeFoundry on = new TypeFoundry(1);
        Shapes.polygon(on, 0, 0, 64, 0, 64, 64);
        CHECK.answer("three on it: the last line goes to the first", on, Call.draw(0, 64, false), 128);
        TypeFoundry x = new TypeFoundry(1);
        Shapes.glyphs(x, 2);
        Shapes.contour(x, 0, false, 0, 0, 101, 0, 50, 99);
        Shapes.alternating(x, 1, 51, 0, 101, 0, 76, 50, 50, 99, 25, 50, 0, 0);
        drawnAlike("three off it", x, 0, 1, 32, false);
    }

    /** 32.5 goes up to 33 in x and in y. */
    private static void halvesUpInTheMiddle() {
        TypeFoundry x = new TypeFoundry(1);
        Shapes.glyphs(x, 2);
        Shapes.contour(x, 0, false, 0, 0, 65, 0, 65, 65, 0, 65);
        Shapes.alternating(x, 1, 33, 0, 65, 0, 65, 33, 65, 65, 33, 65, 0, 65, 0, 33, 0, 0);
        drawnAlike("the middle", x, 0, 1, 32, false);
    }

    /** Halves and whole numbers below 0: in y they are seen when a height lifts all by 16. */
    private static void halvesUpInTheMiddleBelow0() {
        int[][] yAndMiddleOfItAndMinus16 = {{-15, -15}, {-14, -15}, {-13, -14}};
        for (int[] row : yAndMiddleOfItAndMinus16) {
            TypeFoundry x = new TypeFoundry(1);
            x.height(-16);
            Shapes.glyphs(x, 2);
            x.point(0, 0, -16, true);
            Shapes.open(x, 0, false, 512, -16, 1536, row[0]);
            Shapes.contour(x, 0, true, 2048, row[0], 2048, 100, 0, 100);
            Shapes.open(x, 1, true, 0, 0);
            Shapes.open(x, 1, false, 512, 0);
            Shapes.open(x, 1, true, 1024, row[1] + 16);
            Shapes.open(x, 1, false, 1536, row[0] + 16);
            Shapes.contour(x, 1, true, 2048, row[0] + 16, 2048, 116, 0, 116);
            drawnAlike("the middle y of -16 and " + row[0], x, 0, 1, 32, true);
        }
        int[][] xAndMiddleOfItAnd0 = {{-1, 0}, {-2, -1}, {-3, -1}};
        for (int[] row : xAndMiddleOfItAnd0) {
            TypeFoundry x = new TypeFoundry(1);
            for (int glyph = 0; glyph < 2; glyph++) {
                x.glyph();
                Shapes.open(x, glyph, true, 0, 0, 500, 0, 500, 1000, 64, 1000);
                Shapes.open(x, glyph, false, 0, 600);
                if (glyph == 1) {
                    Shapes.open(x, glyph, true, row[1], 500);
                }
                Shapes.contour(x, glyph, false, row[0], 400);
            }
            drawnAlike("the middle x of 0 and " + row[0], x, 0, 1, 64, false);
        }
    }

    /** The seven points are told out by hand. */
    private static void sevenPointsLieBetween() {
        TypeFoundry x = new TypeFoundry(1);
        Shapes.glyphs(x, 2);
        x.point(0, 0, 0, true);
        x.point(0, 512, 0, false);
        Shapes.contour(x, 0, true, 512, 512, 0, 512);
        Shapes.contour(x, 1, true, 0, 0, 120, 8, 224, 32, 312, 72, 384, 128, 440, 200, 480, 288, 504, 392, 512, 512, 0,
            512);
        drawnAlike("eight lines", x, 0, 1, 64, false);
    }

    /** x is 0.5 in the middle of the quadratic and goes up to 1, and is 0.28 and 0.78 next to it. */
    private static void halvesUpOnAQuadratic() {
        TypeFoundry x = new TypeFoundry(1);
        Shapes.glyphs(x, 2);
        x.point(0, 0, 0, true);
        x.point(0, 0, 256, false);
        Shapes.contour(x, 0, true, 2, 512, -9, 512, -9, 0);
        Shapes.contour(x, 1, true, 0, 0, 0, 64, 0, 128, 0, 192, 1, 256, 1, 320, 1, 384, 2, 448, 2, 512, -9, 512, -9, 0);
        drawnAlike("0.5 on a quadratic", x, 0, 1, 64, false);
    }

    /**
     * y is -15.5 in the middle of the quadratic and goes up to -15, seen when a height lifts all by 16; x is -0.5 and
     * goes up to 0.
     */
    private static void halvesUpOnAQuadraticBelow0() {
        TypeFoundry x = new TypeFoundry(1);
        x.height(-16);
        Shapes.glyphs(x, 2);
        x.point(0, 0, -16, true);
        x.point(0, 1024, -16, false);
        Shapes.contour(x, 0, true, 2048, -14, 2048, 100, 0, 100);
        Shapes.contour(x, 1, true, 0, 0, 256, 0, 512, 0, 768, 0, 1024, 1, 1280, 1, 1536, 1, 1792, 2, 2048, 2, 2048, 116,
            0, 116);
        drawnAlike("y below 0 on a quadratic", x, 0, 1, 32, true);
        TypeFoundry y = new TypeFoundry(1);
        Shapes.glyphs(y, 2);
        y.point(0, 64, 1024, true);
        y.point(0, -34, 512, false);
        Shapes.contour(y, 0, true, 2, 0, 500, 0, 500, 1024);
        Shapes.contour(y, 1, true, 64, 1024, 42, 896, 23, 768, 9, 640, 0, 512, -6, 384, -8, 256, -5, 128, 2, 0, 500, 0,
            500, 1024);
        drawnAlike("x below 0 on a quadratic", y, 0, 1, 64, false);
    }

    // PIXELS

    /** The grey of a pixel of side 32 by twice its cover. */
    private static int grey(int twiceCover) {
        return (255 * twiceCover + 1024) / 2048;
    }

    private static void pixelsAre(String what, TypeFoundry x, int[]... columnRowAndGrey) {
        for (int[] row : columnRowAndGrey) {
            CHECK.answer(what, x, Call.pixel(row[0], row[1]), row[2]);
        }
    }

    /** At y 32 the lines are at x 19.5, that is 20, whichever way they go. */
    private static void cutAtYHalvesUp() {
        TypeFoundry x = new TypeFoundry(1);
        int leansRight = Shapes.polygon(x, 0, 0, 39, 64, 0, 64);
        int leansLeft = Shapes.polygon(x, 0, 0, 39, 0, 0, 64);
        int down = Shapes.polygon(x, 0, 64, 39, 0, 64, 0, 64, 64);
        x.draw(leansRight, 32, false);
        pixelsAre("leans right", x, new int[] {0, 0, grey(32 * 20)},
            new int[] {0, 1, grey(20 * (20 + 32) + 12 * 64)}, new int[] {1, 1, grey(12 * 7)});
        x.draw(leansLeft, 32, false);
        pixelsAre("leans left", x, new int[] {0, 0, grey(12 * 64 + 20 * (32 + 20))}, new int[] {0, 1, grey(32 * 20)},
            new int[] {1, 0, grey(12 * 7)});
        x.draw(down, 32, false);
        pixelsAre("goes down", x, new int[] {0, 0, grey(2048 - 12 * 64 - 20 * 52)},
            new int[] {0, 1, grey(2048 - 32 * 20)}, new int[] {1, 0, grey(2048 - 12 * 7)});
    }

    /**
     * At y 32 the lines are at x -0.5, -1, -1.5 and -2, that is 0, -1, -1 and -2; from there they are at x 0 at y 32,
     * 33, 33 and 34, and rise that much less in the upper pixel.
     */
    private static void cutAtYBelow0HalvesUp() {
        int[][] fromAndGrey = {{-33, grey(32 * 32)}, {-34, grey(31 * 32)}, {-35, grey(31 * 32)}, {-36, grey(30 * 32)}};
        for (int[] row : fromAndGrey) {
            TypeFoundry x = new TypeFoundry(1);
            Shapes.polygon(x, row[0], 0, 32, 64, row[0], 64);
            CHECK.answer("cut below 0, from " + row[0], x, Call.draw(0, 32, false), row[1]);
            CHECK.answer("cut below 0, from " + row[0], x, Call.pixel(0, 1), row[1]);
        }
    }

    /** At x 32 the lines are at y 15.5, that is 16, whichever way they go. */
    private static void cutAtXHalvesUp() {
        TypeFoundry x = new TypeFoundry(1);
        int leansRight = Shapes.polygon(x, 0, 0, 64, 31, 0, 31);
        int leansLeft = Shapes.polygon(x, 0, 0, 64, 0, 0, 31);
        int down = Shapes.polygon(x, 0, 0, 64, 0, 64, 31);
        x.draw(leansRight, 32, false);
        pixelsAre("leans right", x, new int[] {0, 0, grey(16 * 32 + 15 * 64)}, new int[] {1, 0, grey(15 * 32)});
        x.draw(leansLeft, 32, false);
        pixelsAre("leans left", x, new int[] {0, 0, grey(16 * 64 + 15 * 32)}, new int[] {1, 0, grey(16 * 32)});
        x.draw(down, 32, false);
        pixelsAre("goes down", x, new int[] {0, 0, grey(31 * 64 - 16 * 32 - 15 * 64)},
            new int[] {1, 0, grey(31 * 64 - 15 * 32)});
    }

    /** 1.25, 2.5 and 3.75 are 1, 3 and 4; from the cut before the second one would be 2.33. */
    private static void eachCutIsOfTheWholeLine() {
        TypeFoundry x = new TypeFoundry(1);
        int steep = Shapes.polygon(x, 0, 0, 5, 128, 0, 128);
        int flat = Shapes.polygon(x, 0, 0, 128, 5, 0, 5);
        x.draw(steep, 32, false);
        pixelsAre("cut at y", x, new int[] {0, 0, grey(32)}, new int[] {0, 1, grey(32 * 4)},
            new int[] {0, 2, grey(32 * 7)}, new int[] {0, 3, grey(32 * 9)});
        x.draw(flat, 32, false);
        pixelsAre("cut at x", x, new int[] {0, 0, grey(32 + 4 * 64)}, new int[] {1, 0, grey(2 * 32 + 2 * 64)},
            new int[] {2, 0, grey(32 + 64)}, new int[] {3, 0, grey(32)});
    }

    private static void notCutAtItsEnds() {
        for (int side : SIDES) {
            TypeFoundry x = new TypeFoundry(1);
            Shapes.polygon(x, side, side, 2 * side, side, 2 * side, 2 * side, side, 2 * side);
            CHECK.answer("one pixel", x, Call.draw(0, side, false), 255);
            pixelsAre("it and its neighbours", x, new int[] {1, 1, 255}, new int[] {0, 1, 0}, new int[] {2, 1, 0},
                new int[] {1, 0, 0}, new int[] {1, 2, 0});
        }
    }

    /** What goes up at x 80 has all of two pixels to its left, half of the third and none of the fourth. */
    private static void leftRightAndOwn() {
        TypeFoundry x = new TypeFoundry(1);
        Shapes.polygon(x, -100, 32, 80, 32, 80, 64, -100, 64);
        CHECK.answer("left, right and own", x, Call.draw(0, 32, false), 255 + 255 + 128);
        pixelsAre("left, right and own", x, new int[] {0, 1, 255}, new int[] {1, 1, 255}, new int[] {2, 1, 128},
            new int[] {3, 1, 0}, new int[] {0, 0, 0}, new int[] {0, 2, 0});
    }

    /** Just within and just outside each of the four edges of all pixels. */
    private static void belowAndAboveAndBeside() {
        int[][] boxAndSum = {
            {-500, 0, 0, 32, 0}, {-500, 0, 16, 32, 128}, {2048, 0, 4000, 32, 0}, {2032, 0, 4000, 32, 128},
            {0, -500, 32, 0, 0}, {0, -500, 32, 16, 128}, {0, 2048, 32, 4000, 0}, {0, 2032, 32, 4000, 128},
            {-2000, -2000, 4000, 0, 0}, {-2000, 2048, 4000, 4000, 0}, {-2000, -2000, 0, 4000, 0},
            {2048, -2000, 4000, 4000, 0}, {-2000, -2000, 4000, 4000, 64 * 64 * 255}};
        for (int[] box : boxAndSum) {
            TypeFoundry x = new TypeFoundry(1);
            Shapes.polygon(x, box[0], box[1], box[2], box[1], box[2], box[3], box[0], box[3]);
            CHECK.answer(java.util.Arrays.toString(box), x, Call.draw(0, 32, false), box[4]);
        }
        TypeFoundry far = new TypeFoundry(1);
        Shapes.polygon(far, -2000, -2000, 4000, -2000, 4000, 4000, -2000, 4000);
        Shapes.glyphs(far, 4);
        for (int i = 1; i <= 4; i++) {
            far.component(i, i - 1, i % 2 == 0 ? 4000 : -4000, i < 3 ? -4000 : 4000, 0);
        }
        CHECK.answer("shifted out", far, Call.draw(2, 32, false), 0);
        CHECK.answer("shifted back", far, Call.draw(4, 32, false), 64 * 64 * 255);
    }

    private static void greyHalvesUp() {
        int[][] breadthAndGrey = {{0, 0}, {1, 8}, {15, 120}, {16, 128}, {17, 135}, {31, 247}, {32, 255}};
        for (int[] row : breadthAndGrey) {
            TypeFoundry x = new TypeFoundry(1);
            Shapes.polygon(x, 0, 0, row[0], 0, row[0], 32, 0, 32);
            CHECK.answer("the grey of " + row[0] + " of 32", x, Call.draw(0, 32, false), row[1]);
        }
        for (int side : SIDES) {
            TypeFoundry x = new TypeFoundry(1);
            int half = Shapes.polygon(x, 0, 0, side, 0, side, side);
            int less = Shapes.polygon(x, 1, 0, side, 0, side, side);
            CHECK.answer("127.5 of side " + side, x, Call.draw(half, side, false), 128);
            CHECK.answer("less than 127.5 of side " + side, x, Call.draw(less, side, false),
                (255 * (side - 1) + side) / (2 * side));
        }
    }

    private static void greyBelow0AndAbove255() {
        for (int side : SIDES) {
            TypeFoundry x = new TypeFoundry(1);
            int up = Shapes.polygon(x, 0, 0, side, 0, side, side, 0, side);
            int down = Shapes.polygon(x, 0, 0, 0, side, side, side, side, 0);
            int sliver = Shapes.polygon(x, 0, 0, 0, side, 1, side, 1, 0);
            CHECK.answer("255 is not above it", x, Call.draw(up, side, false), 255);
            CHECK.answer("below 0", x, Call.draw(down, side, false), 0);
            CHECK.answer("just below 0", x, Call.draw(sliver, side, false), 0);
            CHECK.answer("below 0", x, Call.pixel(0, 0), 0);
            int many = x.glyph();
            for (int i = 0; i < 3; i++) {
                x.component(many, up, 0, 0, 0);
            }
            CHECK.answer("above 255", x, Call.draw(many, side, false), 255);
            CHECK.answer("above 255", x, Call.pixel(0, 0), 255);
            x.component(many, down, 0, 0, 0);
            CHECK.answer("3 less 1, cut to 255 at the end alone", x, Call.draw(many, side, false), 255);
        }
    }

    // FITTED

    /** A bar from far below up to y, fitted: it must reach as high as is due. */
    private static void topIs(String what, TypeFoundry x, int side, int y, int due) {
        int bar = Shapes.polygon(x, 0, -2000, side, -2000, side, y, 0, y);
        int sum = 0;
        for (int j = 0; j < 2048 / side; j++) {
            sum += (2 * 255 * Math.max(0, Math.min(side, due - j * side)) + side) / (2 * side);
        }
        CHECK.answer(what + ": " + y + " goes to " + due, x, Call.draw(bar, side, true), sum);
    }

    private static TypeFoundry withHeights(int... ys) {
        TypeFoundry x = new TypeFoundry(1);
        for (int y : ys) {
            x.height(y);
        }
        return x;
    }

    private static void goalHalvesUp() {
        for (int side : SIDES) {
            int half = side / 2;
            topIs("a half", withHeights(half), side, half, side);
            topIs("below a half", withHeights(half - 1), side, half - 1 + side, side);
            topIs("one and a half", withHeights(side + half), side, side + half, 2 * side);
            topIs("below one and a half", withHeights(side + half - 1), side, side + half - 1, side);
            topIs("minus a half", withHeights(-half), side, 10, 10 + half);
            topIs("below minus a half", withHeights(-half - 1), side, 10 + half, 11);
            topIs("a multiple", withHeights(2 * side), side, 7 + side, 7 + side);
        }
        topIs("the greatest height", withHeights(4000), 256, 100, 196);
        topIs("the least height", withHeights(-2000), 256, 100, 52);
    }

    private static void atOrBelowTheLeastHeight() {
        // 100 goes to 96, 120 to 128.
        int[][] yAndDue = {{100, 96}, {99, 95}, {50, 46}, {5, 1}};
        for (int[] row : yAndDue) {
            topIs("at or below the least", withHeights(120, 100), 32, row[0], row[1]);
        }
        topIs("above the least", withHeights(120, 100), 32, 101, 98);
        topIs("above the least", withHeights(120, 100), 32, 102, 99);
    }

    private static void atOrAboveTheGreatestHeight() {
        int[][] yAndDue = {{120, 128}, {121, 129}, {200, 208}, {1000, 1008}};
        for (int[] row : yAndDue) {
            topIs("at or above the greatest", withHeights(100, 120), 32, row[0], row[1]);
        }
        topIs("below the greatest", withHeights(100, 120), 32, 119, 126);
    }

    /** The goals of 10, 50, 100 in 32 are 0, 64, 96. */
    private static void betweenTwoNeighbours() {
        int[][] yAndDue = {{10, 0}, {11, 2}, {12, 3}, {13, 5}, {14, 6}, {15, 8}, {49, 62}, {50, 64}, {51, 65}, {52, 65},
            {53, 66}, {75, 80}, {99, 95}, {100, 96}, {101, 97}};
        int[][] orders = {{10, 50, 100}, {100, 50, 10}, {50, 10, 100}, {50, 100, 10}};
        for (int[] order : orders) {
            TypeFoundry x = withHeights(order);
            for (int[] row : yAndDue) {
                topIs("between", x, 32, row[0], row[1]);
            }
        }
        TypeFoundry eight = withHeights(40, 80, 120, 160, 200, 240, 280, 320);
        // The goals in 64 are 64, 64, 128, 192, 192, 256, 256, 320.
        int[][] ofEight = {{30, 54}, {40, 64}, {60, 64}, {80, 64}, {100, 96}, {120, 128}, {130, 144}, {180, 192},
            {220, 224}, {260, 256}, {300, 288}, {320, 320}, {330, 330}};
        for (int[] row : ofEight) {
            topIs("between eight", eight, 64, row[0], row[1]);
        }
    }

    private static void twoHeightsOfOneGoal() {
        // 60 and 70 both go to 64.
        int[][] yAndDue = {{59, 63}, {60, 64}, {61, 64}, {69, 64}, {70, 64}, {71, 65}};
        for (int[] row : yAndDue) {
            topIs("two of one goal", withHeights(60, 70), 64, row[0], row[1]);
        }
    }

    private static void aHeightAloneAndNone() {
        int[][] yAndDue = {{19, 31}, {20, 32}, {21, 33}};
        for (int[] row : yAndDue) {
            topIs("a height alone", withHeights(20), 32, row[0], row[1]);
        }
        topIs("no heights", new TypeFoundry(1), 32, 45, 45);
    }

    // ROWS

    private static TypeFoundry of(int glyphs) {
        TypeFoundry x = new TypeFoundry(1);
        Shapes.glyphs(x, glyphs);
        return x;
    }

    private static void becomes(String what, TypeFoundry x, int[] text, int... want) {
        Shapes.type(x, text);
        CHECK.answer(what, x, Call.shape(), want.length);
        for (int i = 0; i < want.length; i++) {
            CHECK.answer(what, x, Call.shaped(i, 0), want[i]);
        }
    }

    private static int[] row(int... glyphs) {
        return glyphs;
    }

    private static void beforeInputAfterAtTheEndsOfTheRow() {
        TypeFoundry before = of(6);
        before.rule(0, 0x0201, 0x03, 0, 5);
        becomes("BEFORE from the first place on", before, row(0, 1, 2), 0, 1, 5);
        becomes("one less", before, row(1, 2), 1, 2);
        becomes("none", before, row(2), 2);
        TypeFoundry after = of(6);
        after.rule(0, 0, 0x03, 0x0504, 5);
        becomes("AFTER up to the last place", after, row(2, 3, 4), 5, 3, 4);
        becomes("one less", after, row(2, 3), 2, 3);
        becomes("none", after, row(2), 2);
        TypeFoundry input = of(6);
        input.rule(0, 0, 0x04030201, 0, 5);
        becomes("INPUT is all of the row", input, row(0, 1, 2, 3), 5);
        becomes("one less", input, row(0, 1, 2), 0, 1, 2);
        becomes("at the end", input, row(3, 0, 1, 2, 3), 3, 5);
        becomes("at the beginning", input, row(0, 1, 2, 3, 0), 5, 0);
        becomes("another last one", input, row(0, 1, 2, 2), 0, 1, 2, 2);
        TypeFoundry last = of(6);
        last.rule(0, 0, 0x01, 0, 5);
        becomes("the first and the last place", last, row(0, 1, 0), 5, 1, 5);
        becomes("one place", last, row(0), 5);
    }

    private static void theLongestInputThenTheOneToldFirst() {
        TypeFoundry x = of(6);
        x.rule(0, 0x02, 0x01, 0, 3);
        x.rule(0, 0, 0x01, 0, 4);
        x.rule(0, 0, 0x0101, 0, 5);
        x.rule(0, 0, 0x0101, 0, 2);
        becomes("the longest", x, row(0, 0), 5);
        becomes("the longest, told later than one with BEFORE", x, row(1, 0, 0), 1, 5);
        becomes("told first", x, row(1, 0), 1, 3);
        becomes("the first one does not fit", x, row(2, 0), 2, 4);
    }

    private static void goesOnBehindThat() {
        TypeFoundry x = of(3);
        x.rule(0, 0, 0x0101, 0, 0);
        becomes("OUTPUT is not INPUT again", x, row(0, 0, 0, 0), 0, 0);
        TypeFoundry y = of(3);
        y.rule(0, 0x02, 0x01, 0, 1);
        becomes("BEFORE is as the row is by then", y, row(1, 0, 0), 1, 1, 1);
        TypeFoundry z = of(3);
        z.rule(0, 0, 0x01, 0x01, 1);
        becomes("AFTER is as the row is by then", z, row(0, 0, 0), 1, 1, 0);
    }

    private static void eachLookupOnWhatTheOneBeforeLeft() {
        TypeFoundry x = of(9);
        for (int lookup = 7; lookup >= 0; lookup--) {
            x.rule(lookup, 0, lookup + 1, 0, lookup + 1);
        }
        becomes("all eight", x, row(0, 7, 8), 8, 8, 8);
        CHECK.answer("9 outputs", x, Call.count(6), 9);
        TypeFoundry y = of(3);
        y.rule(6, 0, 0x02, 0, 2);
        y.rule(7, 0, 0x01, 0, 1);
        becomes("none is run again", y, row(0, 1), 1, 2);
    }

    // KERNING

    private static void kerningOfPairElseOfClassesElse0() {
        TypeFoundry x = of(2);
        x.type(0);
        x.type(1);
        x.shape();
        CHECK.answer("0", x, Call.shaped(1, 1), 0);
        x.kern(1, 2, 50);
        x.sort(0, 0, 1);
        CHECK.answer("a left class alone", x, Call.shaped(1, 1), 0);
        x.sort(1, 1, 2);
        CHECK.answer("both", x, Call.shaped(1, 1), 50);
        x.sort(0, 0, 0);
        CHECK.answer("a right class alone", x, Call.shaped(1, 1), 0);
        x.sort(0, 0, 2);
        CHECK.answer("both, nothing was told", x, Call.shaped(1, 1), 0);
        x.sort(0, 1, 1);
        x.sort(1, 0, 2);
        CHECK.answer("the other sides do not count", x, Call.shaped(1, 1), 0);
        x.sort(0, 0, 1);
        x.pair(0, 1, -8);
        CHECK.answer("the pair", x, Call.shaped(1, 1), -8);
        x.pair(0, 1, 0);
        CHECK.answer("the pair, 0", x, Call.shaped(1, 1), 0);
    }
}
