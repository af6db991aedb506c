/** Promises 1 to 7: a new object, glyph, point, close, place, component, advance. */
public final class GlyphTest {
    private static final Class<IllegalArgumentException> ARGUMENT = IllegalArgumentException.class;
    private static final Class<IllegalStateException> STATE = IllegalStateException.class;
    private static final Class<IndexOutOfBoundsException> INDEX = IndexOutOfBoundsException.class;
    private static final Check CHECK = new Check();

    public static void main(String[] args) {
        promise1NewObject();
        promise1Masters();
        promise2Glyph();
        promise3Point();
        promise3PointRefused();
        promise4Close();
        promise5Place();
        promise5PlaceRefused();
        promise6Component();
        promise6ComponentRefused();
        promise6Depth();
        promise6Points();
        promise6Locks();
        promise7Advance();
        CHECK.end();
    }

    private static void promise1NewObject() {
        TypeFoundry x = new TypeFoundry(1);
        for (int what = 0; what <= 6; what++) {
            CHECK.due("1: count(" + what + ") of a new object", x.count(what), 0);
        }
        CHECK.due("1: pixel", x.pixel(0, 0), TypeFoundry.NONE);
        CHECK.due("1: x behind the empty row", x.shaped(0, 1), 0);
        CHECK.due("1: shape", x.shape(), 0);
        CHECK.refused("1: outline", INDEX, () -> x.outline(0, TypeFoundry.NONE, 0));
        int a = Shapes.polygon(x, 0, 20, 64, 20, 64, 84, 0, 84);
        CHECK.due("1: no heights", x.draw(a, 64, true), x.draw(a, 64, false));
        x.advance(a, 0, 100);
        x.kern(1, 1, 50);
        x.type(a);
        x.type(a);
        x.shape();
        CHECK.due("1: no classes", x.shaped(1, 1), 100);
    }

    private static void promise1Masters() {
        int[][] toldAndGot = {
            {1, 1}, {2, 2}, {4, 4}, {0, 1}, {3, 1}, {5, 1}, {8, 1}, {-1, 1}, {-2, 1}, {-4, 1},
            {Integer.MAX_VALUE, 1}, {Integer.MIN_VALUE, 1}};
        for (int[] row : toldAndGot) {
            TypeFoundry x = new TypeFoundry(row[0]);
            int glyph = x.glyph();
            for (int master = -1; master <= 5; master++) {
                boolean isThere = master >= 0 && master < row[1];
                CHECK.note("1: master " + master + " of " + row[0],
                    Boolean.toString(x.advance(glyph, master, 10)), Boolean.toString(isThere));
            }
        }
    }

    private static void promise2Glyph() {
        TypeFoundry x = new TypeFoundry(4);
        for (int i = 0; i < 40; i++) {
            CHECK.due("2: glyph", x.glyph(), i);
        }
        CHECK.refused("2: glyph 40", STATE, x::glyph);
        CHECK.due("2: count", x.count(0), 40);
        for (int what = 0; what <= 3; what++) {
            CHECK.due("2: without anything, what " + what, x.outline(39, -1, what), 0);
        }
        CHECK.due("2: nothing to draw", x.draw(39, 32, false), 0);
    }

    private static void promise3Point() {
        TypeFoundry x = new TypeFoundry(4);
        x.glyph();
        CHECK.due("3: least place", x.point(0, -2000, -2000, true), 0);
        CHECK.due("3: greatest place", x.point(0, 4000, 4000, false), 1);
        CHECK.due("3: third", x.point(0, 5, 6, true), 2);
        CHECK.yes("3: close", x.close(0));
        CHECK.due("3: the numbers go on behind a contour", x.point(0, 1, 1, true), 3);
        int[][] instances = {{0, 0}, {1024, 0}, {0, 1024}, {1024, 1024}, {300, 700}};
        for (int[] at : instances) {
            x.instance(at[0], at[1]);
            CHECK.due("3: x in all masters", x.outline(0, 1, 0), 4000);
            CHECK.due("3: y in all masters", x.outline(0, 0, 1), -2000);
        }
        CHECK.due("3: on", x.outline(0, 0, 2), 1);
        CHECK.due("3: off", x.outline(0, 1, 2), 0);
        for (int i = 4; i < 40; i++) {
            CHECK.due("3: point", x.point(0, i, i, true), i);
        }
        CHECK.refused("3: point 40, the open contour's counted", STATE, () -> x.point(0, 0, 0, true));
        CHECK.yes("3: close of 37", x.close(0));
        CHECK.refused("3: point 40, all closed", STATE, () -> x.point(0, 0, 0, true));
        CHECK.refused("3: argument before state", ARGUMENT, () -> x.point(0, 4001, 0, true));
        CHECK.due("3: all points", x.outline(0, -1, 0), 40);
    }

    private static void promise3PointRefused() {
        TypeFoundry x = new TypeFoundry(1);
        x.glyph();
        int[][] wrong = {
            {1, 0, 0}, {-1, 0, 0}, {40, 0, 0}, {Integer.MAX_VALUE, 0, 0}, {Integer.MIN_VALUE, 0, 0},
            {0, -2001, 0}, {0, 4001, 0}, {0, 0, -2001}, {0, 0, 4001},
            {0, Integer.MIN_VALUE, 0}, {0, 0, Integer.MAX_VALUE}};
        for (int[] w : wrong) {
            CHECK.refused("3: point " + java.util.Arrays.toString(w), ARGUMENT, () -> x.point(w[0], w[1], w[2], true));
        }
        CHECK.due("3: nothing was changed", x.point(0, 0, 0, true), 0);
    }

    private static void promise4Close() {
        TypeFoundry x = new TypeFoundry(1);
        CHECK.no("4: no glyphs", x.close(0));
        x.glyph();
        CHECK.no("4: no glyph -1", x.close(-1));
        CHECK.no("4: no glyph 1", x.close(1));
        CHECK.no("4: no points", x.close(0));
        x.point(0, 0, 0, true);
        CHECK.no("4: one point", x.close(0));
        x.point(0, 1, 0, true);
        CHECK.no("4: two points", x.close(0));
        CHECK.due("4: an open contour is not of the outline", x.outline(0, -1, 0), 0);
        x.point(0, 1, 1, true);
        CHECK.due("4: three points open", x.outline(0, -1, 0), 0);
        CHECK.yes("4: three points", x.close(0));
        CHECK.due("4: points", x.outline(0, -1, 0), 3);
        CHECK.due("4: contours", x.outline(0, -1, 1), 1);
        CHECK.no("4: closed already", x.close(0));
        Shapes.open(x, 0, true, 5, 5, 6, 6);
        CHECK.no("4: the closed ones do not count", x.close(0));
        Shapes.open(x, 0, true, 7, 9, 8, 1);
        CHECK.yes("4: a second one", x.close(0));
        CHECK.due("4: two contours", x.outline(0, -1, 1), 2);
        CHECK.due("4: contour of the first", x.outline(0, 2, 3), 0);
        CHECK.due("4: contour of the second", x.outline(0, 3, 3), 1);
        Shapes.open(x, 0, true, 7, 9, 8, 1, 5, 5);
        x.glyph();
        x.component(1, 0, 0, 0, 0);
        CHECK.no("4: locked", x.close(0));
        CHECK.due("4: the open one stays out", x.outline(1, -1, 0), 7);
    }

    private static void promise5Place() {
        TypeFoundry x = new TypeFoundry(2);
        int a = Shapes.polygon(x, 10, 20, 30, 40, 50, 60);
        x.place(a, 1, 1, -2000, 4000);
        CHECK.due("5: master 0 stays", x.outline(a, 1, 0), 30);
        x.instance(1024, 0);
        CHECK.due("5: x in master 1", x.outline(a, 1, 0), -2000);
        CHECK.due("5: y in master 1", x.outline(a, 1, 1), 4000);
        CHECK.due("5: another point stays", x.outline(a, 2, 0), 50);
        Shapes.open(x, a, true, 1, 2, 3, 4, 5, 6);
        x.place(a, 5, 1, 77, 78);
        x.close(a);
        CHECK.due("5: of an open contour", x.outline(a, 5, 0), 77);
        int b = x.glyph();
        x.component(b, a, 0, 0, 0);
        x.place(a, 0, 1, 500, 600);
        CHECK.due("5: of a locked glyph", x.outline(a, 0, 0), 500);
        CHECK.due("5: and in what it is a part of", x.outline(b, 0, 1), 600);
    }

    private static void promise5PlaceRefused() {
        TypeFoundry x = new TypeFoundry(2);
        int a = Shapes.polygon(x, 10, 20, 30, 40, 50, 60);
        int[][] index = {
            {1, 0, 0, 0, 0}, {-1, 0, 0, 0, 0}, {0, 3, 0, 0, 0}, {0, -1, 0, 0, 0}, {0, 0, 2, 0, 0}, {0, 0, -1, 0, 0},
            {0, 0, 3, 5000, 5000}, {0, Integer.MAX_VALUE, 0, 0, 0}, {0, 0, Integer.MIN_VALUE, 0, 0}};
        for (int[] w : index) {
            CHECK.refused("5: place " + java.util.Arrays.toString(w), INDEX,
                () -> x.place(w[0], w[1], w[2], w[3], w[4]));
        }
        int[][] argument = {{-2001, 0}, {4001, 0}, {0, -2001}, {0, 4001}};
        for (int[] w : argument) {
            CHECK.refused("5: place at " + java.util.Arrays.toString(w), ARGUMENT, () -> x.place(a, 0, 0, w[0], w[1]));
        }
        CHECK.due("5: nothing was changed", x.outline(a, 0, 0), 10);
        CHECK.due("5: nor y", x.outline(a, 0, 1), 20);
    }

    private static void promise6Component() {
        TypeFoundry x = new TypeFoundry(1);
        int a = Shapes.polygon(x, 1, 2, 30, 4, 50, 60);
        int b = x.glyph();
        x.component(b, a, -4000, 4000, 7);
        x.component(b, a, 4000, -4000, 0);
        CHECK.due("6: least shift", x.outline(b, 0, 1), -50 + 4000 + 100);
        CHECK.due("6: greatest shift", x.outline(b, 3, 0), 4001);
        Shapes.contour(x, b, true, 7, 7, 8, 8, 9, 7);
        CHECK.due("6: its own contours come first", x.outline(b, 0, 0), 7);
        CHECK.due("6: then the first component", x.outline(b, 3, 3), 1);
        x.component(b, a, 0, 0, 0);
        x.component(b, a, 0, 0, 0);
        CHECK.due("6: four components", x.outline(b, -1, 0), 15);
        CHECK.refused("6: a fifth", STATE, () -> x.component(b, a, 0, 0, 0));
        CHECK.due("6: changed nothing", x.outline(b, -1, 0), 15);
    }

    private static void promise6ComponentRefused() {
        TypeFoundry x = new TypeFoundry(1);
        Shapes.glyphs(x, 3);
        x.component(1, 0, 0, 0, 0);
        int[][] wrong = {
            {3, 0, 0, 0, 0}, {-1, 0, 0, 0, 0}, {0, 3, 0, 0, 0}, {0, -1, 0, 0, 0}, {2, 2, 0, 0, 0}, {0, 0, 0, 0, 0},
            {2, 0, 4001, 0, 0}, {2, 0, -4001, 0, 0}, {2, 0, 0, 4001, 0}, {2, 0, 0, -4001, 0},
            {2, 0, 0, 0, 8}, {2, 0, 0, 0, -1}, {0, 1, 0, 0, 8}, {0, 1, 0, Integer.MIN_VALUE, 0}};
        for (int[] w : wrong) {
            CHECK.refused("6: component " + java.util.Arrays.toString(w), ARGUMENT,
                () -> x.component(w[0], w[1], w[2], w[3], w[4]));
        }
        CHECK.due("6: depth stays", x.outline(2, -1, 3), 0);
        CHECK.refused("6: locked", STATE, () -> x.component(0, 1, 0, 0, 0));
        CHECK.refused("6: locked, another one", STATE, () -> x.component(0, 2, 0, 0, 0));
        CHECK.due("6: what was refused is not locked", x.point(2, 0, 0, true), 0);
    }

    private static void promise6Depth() {
        TypeFoundry x = new TypeFoundry(1);
        Shapes.glyphs(x, 8);
        for (int i = 1; i <= 4; i++) {
            x.component(i, i - 1, 0, 0, 0);
            CHECK.due("6: depth", x.outline(i, -1, 3), i);
        }
        CHECK.refused("6: depth 5", STATE, () -> x.component(5, 4, 0, 0, 0));
        CHECK.due("6: 4 is not locked", x.point(4, 0, 0, true), 0);
        x.component(5, 3, 0, 0, 0);
        x.component(5, 0, 0, 0, 0);
        CHECK.due("6: the greatest counts", x.outline(5, -1, 3), 4);
        x.component(6, 0, 0, 0, 0);
        x.component(6, 1, 0, 0, 0);
        CHECK.due("6: a deeper second one", x.outline(6, -1, 3), 2);
    }

    private static void promise6Points() {
        TypeFoundry x = new TypeFoundry(1);
        int forty = Shapes.ofPoints(x, 40);
        int three = Shapes.ofPoints(x, 3);
        int all = x.glyph();
        x.component(all, forty, 0, 0, 0);
        x.component(all, forty, 0, 0, 5);
        x.component(all, forty, 0, 0, 3);
        CHECK.due("6: 120 points", x.outline(all, -1, 0), 120);
        CHECK.refused("6: 123 points", STATE, () -> x.component(all, three, 0, 0, 0));
        CHECK.due("6: three is not locked", x.point(three, 0, 0, true), 3);
        for (int i = 0; i < 40; i++) {
            x.point(all, i, 2 * i, false);
        }
        x.close(all);
        CHECK.due("6: its own do not count", x.outline(all, -1, 0), 160);
        CHECK.due("6: the last one", x.outline(all, 159, 3), 3);
        CHECK.refused("6: one behind it", INDEX, () -> x.outline(all, 160, 0));
        int above = x.glyph();
        CHECK.refused("6: 160 points as a component", STATE, () -> x.component(above, all, 0, 0, 0));
        int open = x.glyph();
        Shapes.open(x, open, true, 1, 1, 2, 2, 3, 3);
        x.component(above, forty, 0, 0, 0);
        x.component(above, forty, 0, 0, 0);
        x.component(above, forty, 0, 0, 0);
        x.component(above, open, 0, 0, 0);
        CHECK.due("6: open ones do not count", x.outline(above, -1, 0), 120);
    }

    private static void promise6Locks() {
        TypeFoundry x = new TypeFoundry(1);
        int a = Shapes.polygon(x, 1, 2, 30, 4, 50, 60);
        int b = x.glyph();
        x.component(b, a, 0, 0, 0);
        CHECK.refused("3: a locked glyph", STATE, () -> x.point(a, 0, 0, true));
        CHECK.refused("3: argument before lock", ARGUMENT, () -> x.point(a, 0, 4001, true));
        CHECK.due("6: what has components is not locked", x.point(b, 0, 0, true), 0);
        int c = x.glyph();
        x.component(c, a, 0, 0, 0);
        CHECK.due("6: a locked one is a component again", x.outline(c, -1, 0), 3);
        CHECK.yes("7: a locked glyph's width", x.advance(a, 0, 7));
    }

    private static void promise7Advance() {
        TypeFoundry x = new TypeFoundry(2);
        int a = x.glyph();
        CHECK.due("7: at first", x.outline(a, -1, 2), 0);
        CHECK.yes("7: greatest", x.advance(a, 0, 4000));
        CHECK.due("7: in master 0", x.outline(a, -1, 2), 4000);
        x.instance(1024, 0);
        CHECK.due("7: in master 1", x.outline(a, -1, 2), 0);
        CHECK.yes("7: master 1", x.advance(a, 1, 31));
        CHECK.due("7: told", x.outline(a, -1, 2), 31);
        CHECK.yes("7: least", x.advance(a, 1, 0));
        CHECK.due("7: told anew", x.outline(a, -1, 2), 0);
        int[][] wrong = {{1, 0, 0}, {-1, 0, 0}, {0, 2, 0}, {0, -1, 0}, {0, 1, -1}, {0, 1, 4001},
            {0, 1, Integer.MIN_VALUE}, {0, Integer.MAX_VALUE, 1}};
        for (int[] w : wrong) {
            CHECK.no("7: advance " + java.util.Arrays.toString(w), x.advance(w[0], w[1], w[2]));
        }
        CHECK.due("7: nothing was changed", x.outline(a, -1, 2), 0);
    }
}
