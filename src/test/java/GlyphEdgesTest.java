/** The sentences of the promises 1 to 7 that name an edge, one test for each. */
public final class GlyphEdgesTest {
    private static final int[] FAR = {Integer.MIN_VALUE, -1, 40, Integer.MAX_VALUE};
    private static final Check CHECK = new Check();

    public static void main(String[] args) {
        p1AsManyMastersIfThatIs1Or2Or4();
        p1ElseOne();
        p1NoGlyphsHeightsRulesAndClasses();
        p2IfThereAre40();
        p2WithoutAnything();
        p3NumbersFrom0On();
        p3SamePlaceInAllMasters();
        p3IfThereIsNoSuchGlyph();
        p3IfXOrYIsNotInBounds();
        p3IfItIsLocked();
        p3IfItHas40Points();
        p4IfThereIsNoSuchGlyph();
        p4IfItIsLocked();
        p4IfTheContourHasLessThan3Points();
        p4OfAFullGlyph();
        p5LockedOrNotClosedOrNot();
        p5IfThereIsNoSuchGlyphPointOrMaster();
        p5IfXOrYIsNotInBounds();
        p6IfThereAreNoSuchGlyphs();
        p6IfTheyAreTheSame();
        p6IfShiftOrTurnIsNotInBounds();
        p6IfGlyphIsLocked();
        p6IfItHas4();
        p6IfItsDepthWouldBeMoreThan4();
        p6IfMoreThan120Points();
        p7IfThereIsNoSuchGlyphOrMaster();
        p7IfTheWidthIsNotInBounds();
        CHECK.end();
    }

    private static TypeFoundry of(int masters, int glyphs) {
        TypeFoundry x = new TypeFoundry(masters);
        Shapes.glyphs(x, glyphs);
        return x;
    }

    /** Glyph 0 is a triangle, glyph 1 has it as a component. */
    private static TypeFoundry withALockedOne() {
        TypeFoundry x = new TypeFoundry(2);
        Shapes.polygon(x, 10, 20, 30, 40, 50, 60);
        x.glyph();
        x.component(1, 0, 0, 0, 0);
        return x;
    }

    // Promise 1

    private static void p1AsManyMastersIfThatIs1Or2Or4() {
        for (int masters : new int[] {1, 2, 4}) {
            mastersAre("1: told " + masters, masters, masters);
            TypeFoundry x = of(masters, 1);
            x.advance(0, masters - 1, 77);
            x.instance(masters > 1 ? 1024 : 0, masters > 2 ? 1024 : 0);
            CHECK.answer("1: the last master counts", x, Call.outline(0, -1, 2), 77);
        }
    }

    private static void p1ElseOne() {
        for (int told : new int[] {0, 3, 5, 6, 8, 16, -1, -2, -4, Integer.MIN_VALUE, Integer.MAX_VALUE}) {
            mastersAre("1: told " + told, told, 1);
            TypeFoundry x = of(told, 1);
            x.advance(0, 0, 77);
            x.instance(1024, 1024);
            CHECK.answer("1: one master, whatever the instance, told " + told, x, Call.outline(0, -1, 2), 77);
        }
    }

    private static void mastersAre(String what, int told, int masters) {
        CHECK.bounds(what, () -> of(told, 1), m -> Call.advance(0, m, 5), 0, masters - 1, true, false);
        CHECK.bounds(what, () -> {
            TypeFoundry x = of(told, 1);
            x.point(0, 0, 0, true);
            return x;
        }, m -> Call.place(0, 0, m, 1, 1), 0, masters - 1, Call.DONE, Call.INDEX);
    }

    private static void p1NoGlyphsHeightsRulesAndClasses() {
        TypeFoundry x = new TypeFoundry(4);
        for (int what = 0; what <= 6; what++) {
            CHECK.answer("1: new", x, Call.count(what), 0);
        }
        CHECK.answer("1: no glyph 0", x, Call.point(0, 0, 0, true), Call.ARGUMENT);
        CHECK.answer("1: no glyph 0", x, Call.close(0), false);
        CHECK.answer("1: no glyph 0", x, Call.place(0, 0, 0, 0, 0), Call.INDEX);
        CHECK.answer("1: no glyphs", x, Call.component(0, 1, 0, 0, 0), Call.ARGUMENT);
        CHECK.answer("1: no glyph 0", x, Call.advance(0, 0, 0), false);
        CHECK.answer("1: no glyph 0", x, Call.outline(0, -1, 0), Call.INDEX);
        CHECK.answer("1: no glyph 0", x, Call.draw(0, 32, false), Call.ARGUMENT);
        CHECK.answer("1: nothing drawn", x, Call.pixel(0, 0), TypeFoundry.NONE);
        CHECK.answer("1: no glyph 0", x, Call.sort(0, 0, 1), false);
        CHECK.answer("1: no glyphs", x, Call.pair(0, 0, 1), false);
        CHECK.answer("1: no glyph 0", x, Call.rule(0, 0, 1, 0, 0), Call.ARGUMENT);
        CHECK.answer("1: no glyph 0", x, Call.type(0), false);
        CHECK.answer("1: no text", x, Call.shape(), 0);
        CHECK.answer("1: no row", x, Call.shaped(0, 0), Call.INDEX);
        CHECK.answer("1: behind no row", x, Call.shaped(0, 1), 0);
        CHECK.answer("1: classes need no glyphs", x, Call.kern(1, 15, 1), true);
        CHECK.answer("1: heights need no glyphs", x, Call.height(0), true);
        CHECK.answer("1: the first glyph", x, Call.glyph(), 0);
    }

    // Promise 2

    private static void p2IfThereAre40() {
        TypeFoundry x = of(2, 39);
        CHECK.answer("2: the fortieth", x, Call.glyph(), 39);
        CHECK.answer("2: there are 40", x, Call.glyph(), Call.STATE);
        CHECK.answer("2: there are still 40", x, Call.glyph(), Call.STATE);
        CHECK.answer("2: 40", x, Call.count(0), 40);
        CHECK.answer("2: the last one is there", x, Call.point(39, 1, 2, true), 0);
        CHECK.answer("2: none behind it", x, Call.point(40, 1, 2, true), Call.ARGUMENT);
    }

    private static void p2WithoutAnything() {
        for (int masters : new int[] {1, 2, 4}) {
            TypeFoundry x = of(masters, 40);
            int[][] corners = {{0, 0}, {1024, 0}, {0, 1024}, {1024, 1024}, {512, 512}};
            for (int[] at : corners) {
                x.instance(at[0], at[1]);
                for (int glyph : new int[] {0, 1, 39}) {
                    CHECK.answer("2: no width", x, Call.outline(glyph, -1, 2), 0);
                }
            }
            CHECK.answer("2: no points", x, Call.outline(39, -1, 0), 0);
            CHECK.answer("2: no contours", x, Call.outline(39, -1, 1), 0);
            CHECK.answer("2: no components", x, Call.outline(39, -1, 3), 0);
            CHECK.answer("2: no point 0", x, Call.outline(39, 0, 0), Call.INDEX);
            CHECK.answer("2: nor to move", x, Call.place(39, 0, 0, 0, 0), Call.INDEX);
            CHECK.answer("2: nothing to close", x, Call.close(39), false);
            CHECK.answer("2: nothing to draw", x, Call.draw(39, 32, false), 0);
            CHECK.answer("2: not locked", x, Call.point(39, 0, 0, true), 0);
        }
    }

    // Promise 3

    private static void p3NumbersFrom0On() {
        TypeFoundry x = of(1, 2);
        for (int i = 0; i < 40; i++) {
            CHECK.answer("3: the next number", x, Call.point(0, 0, i, i % 2 == 0), i);
            if (i == 4 || i == 39) {
                CHECK.answer("3: closed", x, Call.close(0), true);
            }
        }
        CHECK.answer("3: each glyph counts for itself", x, Call.point(1, 0, 0, true), 0);
        CHECK.answer("3: the last one has its place", x, Call.outline(0, 39, 1), 39);
        CHECK.answer("3: and is off", x, Call.outline(0, 39, 2), 0);
    }

    private static void p3SamePlaceInAllMasters() {
        TypeFoundry x = new TypeFoundry(4);
        Shapes.polygon(x, -2000, 4000, 4000, -2000, 1, -1);
        int[][] corners = {{0, 0}, {1024, 0}, {0, 1024}, {1024, 1024}, {1, 1023}};
        for (int[] at : corners) {
            x.instance(at[0], at[1]);
            CHECK.answer("3: in all masters", x, Call.outline(0, 0, 0), -2000);
            CHECK.answer("3: in all masters", x, Call.outline(0, 0, 1), 4000);
            CHECK.answer("3: in all masters", x, Call.outline(0, 1, 0), 4000);
            CHECK.answer("3: in all masters", x, Call.outline(0, 2, 1), -1);
        }
    }

    private static void p3IfThereIsNoSuchGlyph() {
        for (int glyphs : new int[] {1, 2, 40}) {
            CHECK.bounds("3: of " + glyphs, () -> of(1, glyphs), g -> Call.point(g, 5, 5, true), 0, glyphs - 1, 0,
                Call.ARGUMENT);
        }
    }

    private static void p3IfXOrYIsNotInBounds() {
        CHECK.bounds("3: x", () -> of(1, 1), v -> Call.point(0, v, 0, true), -2000, 4000, 0, Call.ARGUMENT);
        CHECK.bounds("3: y", () -> of(1, 1), v -> Call.point(0, 0, v, true), -2000, 4000, 0, Call.ARGUMENT);
    }

    private static void p3IfItIsLocked() {
        TypeFoundry x = withALockedOne();
        CHECK.answer("3: locked", x, Call.point(0, 0, 0, true), Call.STATE);
        CHECK.answer("3: not locked, its component is", x, Call.point(1, 0, 0, true), 0);
        CHECK.answer("3: its points are as many as they were", x, Call.place(0, 3, 0, 0, 0), Call.INDEX);
    }

    private static void p3IfItHas40Points() {
        TypeFoundry open = of(1, 2);
        for (int i = 0; i < 39; i++) {
            open.point(0, i, 0, true);
        }
        CHECK.answer("3: the fortieth", open, Call.point(0, 39, 0, true), 39);
        CHECK.answer("3: 40 in the open contour", open, Call.point(0, 0, 0, true), Call.STATE);
        CHECK.answer("3: another glyph has room", open, Call.point(1, 0, 0, true), 0);
        open.close(0);
        CHECK.answer("3: 40 in closed ones", open, Call.point(0, 0, 0, true), Call.STATE);
        TypeFoundry both = of(1, 1);
        Shapes.contour(both, 0, true, 0, 0, 9, 0, 0, 9);
        for (int i = 3; i < 40; i++) {
            both.point(0, i, 0, true);
        }
        CHECK.answer("3: 3 closed and 37 open", both, Call.point(0, 0, 0, true), Call.STATE);
        TypeFoundry parts = of(1, 1);
        int forty = Shapes.ofPoints(parts, 40);
        parts.component(0, forty, 0, 0, 0);
        CHECK.answer("3: a component's do not count", parts, Call.point(0, 0, 0, true), 0);
    }

    // Promise 4

    private static void p4IfThereIsNoSuchGlyph() {
        CHECK.bounds("4: glyph", () -> {
            TypeFoundry x = new TypeFoundry(1);
            for (int i = 0; i < 3; i++) {
                x.glyph();
                Shapes.open(x, i, true, 0, 0, 9, 0, 0, 9);
            }
            return x;
        }, Call::close, 0, 2, true, false);
    }

    private static void p4IfItIsLocked() {
        TypeFoundry x = of(1, 2);
        Shapes.open(x, 0, true, 0, 0, 9, 0, 0, 9);
        x.component(1, 0, 0, 0, 0);
        CHECK.answer("4: locked, with three points", x, Call.close(0), false);
        CHECK.answer("4: no contour came to it", x, Call.outline(0, -1, 1), 0);
        Shapes.open(x, 1, true, 0, 0, 9, 0, 0, 9);
        CHECK.answer("4: what has a component is not locked", x, Call.close(1), true);
    }

    private static void p4IfTheContourHasLessThan3Points() {
        TypeFoundry x = of(1, 1);
        for (int round = 0; round < 2; round++) {
            for (int points = 0; points < 3; points++) {
                CHECK.answer("4: with " + points, x, Call.close(0), false);
                CHECK.answer("4: the contour stays open", x, Call.outline(0, -1, 1), round);
                x.point(0, points, 7, false);
            }
            CHECK.answer("4: with 3", x, Call.close(0), true);
            CHECK.answer("4: one contour more", x, Call.outline(0, -1, 1), round + 1);
        }
        CHECK.answer("4: six points", x, Call.outline(0, -1, 0), 6);
    }

    private static void p4OfAFullGlyph() {
        TypeFoundry one = of(1, 1);
        for (int i = 0; i < 40; i++) {
            one.point(0, i, i, true);
        }
        CHECK.answer("4: 40 points in one contour", one, Call.close(0), true);
        CHECK.answer("4: none is open", one, Call.close(0), false);
        CHECK.answer("4: one contour", one, Call.outline(0, 39, 3), 0);
        TypeFoundry many = of(1, 1);
        for (int c = 0; c < 13; c++) {
            Shapes.open(many, 0, true, c, 0, c, 1, c, 2);
            CHECK.answer("4: contour " + c, many, Call.close(0), true);
        }
        many.point(0, 0, 0, true);
        CHECK.answer("4: the fortieth alone", many, Call.close(0), false);
        CHECK.answer("4: 13 contours", many, Call.outline(0, -1, 1), 13);
        CHECK.answer("4: 39 points", many, Call.outline(0, -1, 0), 39);
    }

    // Promise 5

    private static void p5LockedOrNotClosedOrNot() {
        TypeFoundry x = of(1, 2);
        Shapes.open(x, 0, true, 0, 0, 9, 0, 0, 9);
        CHECK.answer("5: open", x, Call.place(0, 2, 0, 71, 72), Call.DONE);
        x.close(0);
        CHECK.answer("5: as it was placed", x, Call.outline(0, 2, 0), 71);
        CHECK.answer("5: closed", x, Call.place(0, 2, 0, 73, 74), Call.DONE);
        CHECK.answer("5: as it was placed anew", x, Call.outline(0, 2, 1), 74);
        x.point(0, 5, 5, true);
        x.component(1, 0, 100, 200, 0);
        CHECK.answer("5: locked and closed", x, Call.place(0, 0, 0, 75, 76), Call.DONE);
        CHECK.answer("5: in the component", x, Call.outline(1, 0, 0), 175);
        CHECK.answer("5: locked and open", x, Call.place(0, 3, 0, 1, 1), Call.DONE);
        CHECK.answer("5: on it stays", x, Call.outline(0, 0, 2), 1);
    }

    private static void p5IfThereIsNoSuchGlyphPointOrMaster() {
        CHECK.bounds("5: glyph", () -> {
            TypeFoundry x = of(1, 2);
            x.point(0, 0, 0, true);
            x.point(1, 0, 0, true);
            return x;
        }, g -> Call.place(g, 0, 0, 1, 1), 0, 1, Call.DONE, Call.INDEX);
        for (int points : new int[] {1, 5, 40}) {
            CHECK.bounds("5: point of " + points + ", the open ones too", () -> {
                TypeFoundry x = of(1, 1);
                for (int i = 0; i < points; i++) {
                    x.point(0, i, i, true);
                    if (i == 3) {
                        x.close(0);
                    }
                }
                return x;
            }, p -> Call.place(0, p, 0, 1, 1), 0, points - 1, Call.DONE, Call.INDEX);
        }
        CHECK.answer("5: no points", of(1, 1), Call.place(0, 0, 0, 1, 1), Call.INDEX);
        TypeFoundry parts = of(1, 1);
        Shapes.ofPoints(parts, 40);
        parts.component(0, 1, 0, 0, 0);
        CHECK.answer("5: a component's points are not its own", parts, Call.place(0, 0, 0, 1, 1), Call.INDEX);
    }

    private static void p5IfXOrYIsNotInBounds() {
        CHECK.bounds("5: x", GlyphEdgesTest::withALockedOne, v -> Call.place(0, 1, 1, v, 0), -2000, 4000, Call.DONE,
            Call.ARGUMENT);
        CHECK.bounds("5: y", GlyphEdgesTest::withALockedOne, v -> Call.place(0, 1, 1, 0, v), -2000, 4000, Call.DONE,
            Call.ARGUMENT);
        TypeFoundry x = withALockedOne();
        x.place(0, 1, 1, -2000, 4000);
        x.instance(1024, 0);
        CHECK.answer("5: least x", x, Call.outline(0, 1, 0), -2000);
        CHECK.answer("5: greatest y", x, Call.outline(0, 1, 1), 4000);
    }

    // Promise 6

    private static void p6IfThereAreNoSuchGlyphs() {
        CHECK.bounds("6: glyph", () -> of(1, 3), g -> Call.component(g, 1, 0, 0, 0), 0, 2, Call.DONE, Call.ARGUMENT);
        CHECK.bounds("6: other", () -> of(1, 3), o -> Call.component(1, o, 0, 0, 0), 0, 2, Call.DONE, Call.ARGUMENT);
        for (int far : FAR) {
            CHECK.answer("6: neither", of(1, 3), Call.component(far, far, 0, 0, 0), Call.ARGUMENT);
        }
    }

    private static void p6IfTheyAreTheSame() {
        for (int glyph : new int[] {0, 1, 2}) {
            CHECK.answer("6: the same", of(1, 3), Call.component(glyph, glyph, 0, 0, 0), Call.ARGUMENT);
        }
        CHECK.answer("6: the same and locked", withALockedOne(), Call.component(0, 0, 0, 0, 0), Call.ARGUMENT);
    }

    private static void p6IfShiftOrTurnIsNotInBounds() {
        CHECK.bounds("6: dx", () -> of(1, 2), v -> Call.component(0, 1, v, 0, 0), -4000, 4000, Call.DONE,
            Call.ARGUMENT);
        CHECK.bounds("6: dy", () -> of(1, 2), v -> Call.component(0, 1, 0, v, 0), -4000, 4000, Call.DONE,
            Call.ARGUMENT);
        CHECK.bounds("6: turn", () -> of(1, 2), v -> Call.component(0, 1, 0, 0, v), 0, 7, Call.DONE, Call.ARGUMENT);
        TypeFoundry x = new TypeFoundry(1);
        Shapes.polygon(x, -2000, 4000, 0, 0, 1, 1);
        x.glyph();
        x.component(1, 0, -4000, 4000, 0);
        x.component(1, 0, 4000, -4000, 0);
        CHECK.answer("6: least dx", x, Call.outline(1, 0, 0), -6000);
        CHECK.answer("6: greatest dy", x, Call.outline(1, 0, 1), 8000);
        CHECK.answer("6: greatest dx", x, Call.outline(1, 3, 0), 2000);
        CHECK.answer("6: least dy", x, Call.outline(1, 3, 1), 0);
    }

    private static void p6IfGlyphIsLocked() {
        TypeFoundry x = of(1, 4);
        x.component(1, 0, 0, 0, 0);
        CHECK.answer("6: locked", x, Call.component(0, 2, 0, 0, 0), Call.STATE);
        CHECK.answer("6: what it is a component of", x, Call.component(0, 1, 0, 0, 0), Call.STATE);
        x.component(2, 1, 0, 0, 0);
        CHECK.answer("6: what it is a component of, two deep", x, Call.component(0, 2, 0, 0, 0), Call.STATE);
        CHECK.answer("6: locked and with a component", x, Call.component(1, 3, 0, 0, 0), Call.STATE);
        CHECK.answer("6: a refused one is not locked", x, Call.point(3, 0, 0, true), 0);
        CHECK.answer("6: a locked one may be another's, too", x, Call.component(3, 0, 0, 0, 0), Call.DONE);
        CHECK.answer("6: and once more", x, Call.component(3, 0, 0, 0, 0), Call.DONE);
    }

    private static void p6IfItHas4() {
        TypeFoundry x = of(1, 6);
        for (int i = 1; i <= 4; i++) {
            CHECK.answer("6: component " + i, x, Call.component(0, i, 0, 0, 0), Call.DONE);
        }
        CHECK.answer("6: has 4", x, Call.component(0, 5, 0, 0, 0), Call.STATE);
        CHECK.answer("6: has 4, one of them again", x, Call.component(0, 4, 0, 0, 0), Call.STATE);
        CHECK.answer("6: 5 is not locked", x, Call.point(5, 0, 0, true), 0);
        CHECK.answer("6: 4 is", x, Call.point(4, 0, 0, true), Call.STATE);
    }

    private static void p6IfItsDepthWouldBeMoreThan4() {
        TypeFoundry x = of(1, 8);
        for (int i = 1; i <= 4; i++) {
            CHECK.answer("6: depth " + i, x, Call.component(i, i - 1, 0, 0, 0), Call.DONE);
            CHECK.answer("6: depth", x, Call.outline(i, -1, 3), i);
        }
        CHECK.answer("6: would be 5", x, Call.component(5, 4, 0, 0, 0), Call.STATE);
        CHECK.answer("6: stays 0", x, Call.outline(5, -1, 3), 0);
        x.component(5, 0, 0, 0, 0);
        CHECK.answer("6: would be 5, with one more", x, Call.component(5, 4, 0, 0, 0), Call.STATE);
        CHECK.answer("6: stays 1", x, Call.outline(5, -1, 3), 1);
        CHECK.answer("6: 4 deep takes one more of depth 3", x, Call.component(4, 3, 0, 0, 0), Call.DONE);
        CHECK.answer("6: and one of depth 0", x, Call.component(4, 6, 0, 0, 0), Call.DONE);
        CHECK.answer("6: the greatest", x, Call.outline(4, -1, 3), 4);
    }

    private static void p6IfMoreThan120Points() {
        int[][] lastAndAnswer = {{37, 120}, {38, 121}};
        for (int[] row : lastAndAnswer) {
            TypeFoundry x = of(1, 1);
            int forty = Shapes.ofPoints(x, 40);
            int three = Shapes.ofPoints(x, 3);
            int last = Shapes.ofPoints(x, row[0]);
            x.component(0, forty, 0, 0, 0);
            x.component(0, three, 0, 0, 0);
            x.component(0, forty, 0, 0, 0);
            boolean fits = row[1] <= 120;
            CHECK.answer("6: to " + row[1], x, Call.component(0, last, 0, 0, 0), fits ? Call.DONE : Call.STATE);
            CHECK.answer("6: points", x, Call.outline(0, -1, 0), fits ? 120 : 83);
        }
        TypeFoundry own = of(1, 3);
        int forty = Shapes.ofPoints(own, 40);
        Shapes.contour(own, 0, true, 0, 0, 9, 0, 0, 9);
        for (int i = 0; i < 3; i++) {
            CHECK.answer("6: its own do not count", own, Call.component(0, forty, 0, 0, 0), Call.DONE);
        }
        CHECK.answer("6: 123 as one component", own, Call.component(1, 0, 0, 0, 0), Call.STATE);
        CHECK.answer("6: 0 is not locked", own, Call.point(0, 0, 0, true), 3);
        own.component(1, forty, 0, 0, 0);
        own.component(1, forty, 0, 0, 0);
        own.component(1, forty, 0, 0, 0);
        CHECK.answer("6: 120 as one component", own, Call.component(2, 1, 0, 0, 0), Call.DONE);
        TypeFoundry open = of(1, 1);
        int some = Shapes.ofPoints(open, 30);
        for (int i = 0; i < 10; i++) {
            open.point(some, i, i, true);
        }
        for (int i = 0; i < 4; i++) {
            CHECK.answer("6: an open contour's do not count", open, Call.component(0, some, 0, 0, 0), Call.DONE);
        }
    }

    // Promise 7

    private static void p7IfThereIsNoSuchGlyphOrMaster() {
        CHECK.bounds("7: glyph", () -> of(1, 3), g -> Call.advance(g, 0, 1), 0, 2, true, false);
        for (int masters : new int[] {1, 2, 4}) {
            CHECK.bounds("7: master", () -> of(masters, 1), m -> Call.advance(0, m, 1), 0, masters - 1, true, false);
        }
    }

    private static void p7IfTheWidthIsNotInBounds() {
        CHECK.bounds("7: width", () -> of(1, 1), w -> Call.advance(0, 0, w), 0, 4000, true, false);
        TypeFoundry x = withALockedOne();
        CHECK.answer("7: of a locked one", x, Call.advance(0, 1, 4000), true);
        x.instance(1024, 0);
        CHECK.answer("7: greatest", x, Call.outline(0, -1, 2), 4000);
        CHECK.answer("7: one of others has its own", x, Call.outline(1, -1, 2), 0);
        x.advance(0, 1, 0);
        CHECK.answer("7: least", x, Call.outline(0, -1, 2), 0);
    }
}
