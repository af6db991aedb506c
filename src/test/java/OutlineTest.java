/** Promises 8 and 9: instance, outline. */
public final class OutlineTest {
    private static final Class<IndexOutOfBoundsException> INDEX = IndexOutOfBoundsException.class;
    private static final Check CHECK = new Check();

    public static void main(String[] args) {
        promise8Edges();
        promise8OneMaster();
        promise8TwoMasters();
        promise8FourMasters();
        promise9Refused();
        promise9Turns();
        promise9RoundedBeforeTurned();
        promise9TurnsInTurns();
        promise9Contours();
        promise9MostContours();
        promise9FourDeep();
        CHECK.end();
    }

    private static void promise8Edges() {
        TypeFoundry x = new TypeFoundry(4);
        CHECK.yes("8: least", x.instance(0, 0));
        CHECK.yes("8: greatest", x.instance(1024, 1024));
        int a = x.glyph();
        x.advance(a, 3, 99);
        int[][] wrong = {{-1, 0}, {1025, 0}, {0, -1}, {0, 1025}, {Integer.MIN_VALUE, 0}, {0, Integer.MAX_VALUE}};
        for (int[] w : wrong) {
            CHECK.no("8: instance " + w[0] + " " + w[1], x.instance(w[0], w[1]));
        }
        CHECK.due("8: nothing was changed", x.outline(a, -1, 2), 99);
    }

    private static void promise8OneMaster() {
        TypeFoundry x = new TypeFoundry(1);
        int a = Shapes.polygon(x, -7, 8, 1, 2, 3, 4);
        x.instance(512, 333);
        CHECK.due("8: one master", x.outline(a, 0, 0), -7);
    }

    private static void promise8TwoMasters() {
        TypeFoundry x = new TypeFoundry(2);
        int a = Shapes.polygon(x, 0, 0, 1, 2, 3, 4);
        x.place(a, 0, 1, 1, -1);
        CHECK.due("8: at first", x.outline(a, 0, 0), 0);
        x.instance(511, 1024);
        CHECK.due("8: below a half", x.outline(a, 0, 0), 0);
        CHECK.due("8: above minus a half", x.outline(a, 0, 1), 0);
        x.instance(512, 0);
        CHECK.due("8: a half", x.outline(a, 0, 0), 1);
        CHECK.due("8: minus a half", x.outline(a, 0, 1), 0);
        x.instance(513, 7);
        CHECK.due("8: below minus a half", x.outline(a, 0, 1), -1);
        x.instance(1024, 7);
        CHECK.due("8: master 1", x.outline(a, 0, 1), -1);
    }

    private static void promise8FourMasters() {
        TypeFoundry x = new TypeFoundry(4);
        int a = Shapes.polygon(x, 0, 0, 1, 2, 3, 4);
        int[] corners = {-2000, 4000, 3999, 17};
        for (int master = 0; master < 4; master++) {
            x.place(a, 0, master, corners[master], master == 3 ? 3 : 0);
            x.advance(a, master, 1000 * master);
        }
        int[][] toldAndX = {{0, 0, -2000}, {1024, 0, 4000}, {0, 1024, 3999}, {1024, 1024, 17}};
        for (int[] row : toldAndX) {
            x.instance(row[0], row[1]);
            CHECK.due("8: a corner", x.outline(a, 0, 0), row[2]);
        }
        x.instance(512, 512);
        CHECK.due("8: the middle, 1504", x.outline(a, 0, 0), 1504);
        CHECK.due("8: three quarters", x.outline(a, 0, 1), 1);
        CHECK.due("8: width", x.outline(a, -1, 2), 1500);
        // 3 u v / 1048576 is 0.498.. and 0.5..: rounded once, not once for u and once for v.
        x.instance(340, 512);
        CHECK.due("8: rounded once", x.outline(a, 0, 1), 0);
        x.instance(256, 1024);
        CHECK.due("8: 0.75", x.outline(a, 0, 1), 1);
        x.instance(256, 683);
        CHECK.due("8: 0.5002", x.outline(a, 0, 1), 1);
        x.instance(256, 682);
        CHECK.due("8: 0.4995", x.outline(a, 0, 1), 0);
    }

    private static void promise9Refused() {
        TypeFoundry x = new TypeFoundry(1);
        CHECK.refused("9: no glyphs", INDEX, () -> x.outline(0, 0, 0));
        int a = Shapes.polygon(x, 1, 2, 3, 5, 8, 13);
        x.point(a, 0, 0, true);
        int[][] wrong = {
            {1, 0, 0}, {-1, 0, 0}, {0, 3, 0}, {0, -2, 0}, {0, 0, 4}, {0, 0, -1}, {0, -1, 4}, {0, -1, -1},
            {0, Integer.MAX_VALUE, 0}, {0, Integer.MIN_VALUE, 0}, {0, 0, Integer.MIN_VALUE}};
        for (int[] w : wrong) {
            CHECK.refused("9: outline " + java.util.Arrays.toString(w), INDEX, () -> x.outline(w[0], w[1], w[2]));
        }
        CHECK.due("9: the last point", x.outline(a, 2, 1), 13);
    }

    /** Where each turn brings the points (1, 2), (30, 4), (50, 60), told out by hand. */
    private static void promise9Turns() {
        int[][] due = {
            {1, 2, 30, 4, 50, 60},
            {-2, 1, -4, 30, -60, 50},
            {-1, -2, -30, -4, -50, -60},
            {2, -1, 4, -30, 60, -50},
            {-50, 60, -30, 4, -1, 2},
            {-60, -50, -4, -30, -2, -1},
            {50, -60, 30, -4, 1, -2},
            {60, 50, 4, 30, 2, 1}};
        for (int turn = 0; turn < 8; turn++) {
            TypeFoundry x = new TypeFoundry(1);
            int a = x.glyph();
            x.point(a, 1, 2, false);
            x.point(a, 30, 4, true);
            x.point(a, 50, 60, true);
            x.close(a);
            int b = x.glyph();
            x.component(b, a, 100, 1000, turn);
            for (int k = 0; k < 3; k++) {
                String at = "9: turn " + turn + " point " + k;
                CHECK.due(at + " x", x.outline(b, k, 0), due[turn][2 * k] + 100);
                CHECK.due(at + " y", x.outline(b, k, 1), due[turn][2 * k + 1] + 1000);
                CHECK.due(at + " on", x.outline(b, k, 2), k == (turn < 4 ? 0 : 2) ? 0 : 1);
                CHECK.due(at + " contour", x.outline(b, k, 3), 0);
            }
        }
    }

    /** 0.5 and 2.5 go up to 1 and 3; then they are turned. */
    private static void promise9RoundedBeforeTurned() {
        int[][] due = {{1, 3}, {-3, 1}, {-1, -3}, {3, -1}, {-1, 3}, {-3, -1}, {1, -3}, {3, 1}};
        for (int turn = 0; turn < 8; turn++) {
            TypeFoundry x = new TypeFoundry(2);
            int a = Shapes.polygon(x, 0, 2, 10, 0, 10, 10);
            x.place(a, 0, 1, 1, 3);
            int b = x.glyph();
            x.component(b, a, 0, 0, turn);
            x.instance(512, 0);
            int k = turn < 4 ? 0 : 2;
            CHECK.due("9: a half goes up, then it is turned by " + turn + ": x", x.outline(b, k, 0), due[turn][0]);
            CHECK.due("9: a half goes up, then it is turned by " + turn + ": y", x.outline(b, k, 1), due[turn][1]);
        }
    }

    private static void promise9TurnsInTurns() {
        TypeFoundry x = new TypeFoundry(1);
        int a = Shapes.polygon(x, 1, 2, 30, 4, 50, 60);
        int b = x.glyph();
        x.component(b, a, 10, 20, 4);
        int c = x.glyph();
        x.component(c, b, 100, 200, 5);
        // b is (-40, 80), (-20, 24), (9, 22); turned again and told backwards.
        int[] due = {-22 + 100, -9 + 200, -24 + 100, 20 + 200, -80 + 100, 40 + 200};
        for (int k = 0; k < 3; k++) {
            CHECK.due("9: twice turned x", x.outline(c, k, 0), due[2 * k]);
            CHECK.due("9: twice turned y", x.outline(c, k, 1), due[2 * k + 1]);
        }
        x.advance(a, 0, 7);
        CHECK.due("9: width is its own, none was told", x.outline(c, -1, 2), 0);
        x.advance(b, 0, 60);
        x.advance(c, 0, 500);
        CHECK.due("9: width is its own", x.outline(c, -1, 2), 500);
        CHECK.due("9: that of its component is", x.outline(b, -1, 2), 60);
        CHECK.due("9: depth", x.outline(c, -1, 3), 2);
    }

    private static void promise9Contours() {
        TypeFoundry x = new TypeFoundry(1);
        int a = Shapes.polygon(x, 1, 2, 30, 4, 50, 60);
        Shapes.contour(x, a, false, 5, 5, 6, 6, 7, 6, 8, 5);
        int b = x.glyph();
        Shapes.contour(x, b, true, 9, 9, 9, 8, 8, 9);
        x.component(b, a, 0, 0, 4);
        x.component(b, a, 0, 0, 0);
        int[] contours = {0, 0, 0, 1, 1, 1, 2, 2, 2, 2, 3, 3, 3, 4, 4, 4, 4};
        CHECK.due("9: points", x.outline(b, -1, 0), contours.length);
        CHECK.due("9: contours", x.outline(b, -1, 1), 5);
        for (int k = 0; k < contours.length; k++) {
            CHECK.due("9: contour of " + k, x.outline(b, k, 3), contours[k]);
        }
        CHECK.due("9: each contour is told backwards for itself", x.outline(b, 3, 0), -50);
        CHECK.due("9: the second one, too", x.outline(b, 6, 0), -8);
        CHECK.due("9: in the middle", x.outline(b, 7, 0), -7);
    }

    private static void promise9MostContours() {
        TypeFoundry x = new TypeFoundry(1);
        int a = ofContours(x, 13);
        int one = ofContours(x, 1);
        int b = ofContours(x, 13);
        for (int i = 0; i < 3; i++) {
            x.component(b, a, 0, 0, 4 + i);
        }
        x.component(b, one, 0, 0, 7);
        CHECK.due("9: 13 contours of its own and 40", x.outline(b, -1, 1), 53);
        CHECK.due("9: 159 points", x.outline(b, -1, 0), 159);
        CHECK.due("9: the last one", x.outline(b, 158, 3), 52);
        CHECK.due("9: told backwards", x.outline(b, 156, 0), 30);
    }

    private static int ofContours(TypeFoundry x, int contours) {
        int glyph = x.glyph();
        for (int i = 0; i < contours; i++) {
            Shapes.contour(x, glyph, true, i, 10, i, 20, i, 30);
        }
        return glyph;
    }

    private static void promise9FourDeep() {
        TypeFoundry x = new TypeFoundry(1);
        int a = Shapes.polygon(x, 1, 2, 30, 4, 50, 60);
        for (int i = 0; i < 4; i++) {
            x.glyph();
            x.component(a + i + 1, a + i, 1000, 100, 1);
            Shapes.contour(x, a + i + 1, true, i, i, i, i, i, i);
        }
        CHECK.due("9: points of all", x.outline(4, -1, 0), 15);
        CHECK.due("9: its own first", x.outline(4, 0, 0), 3);
        CHECK.due("9: the deepest last", x.outline(4, 12, 3), 4);
        // (1, 2), (998, 101), (899, 1098), (-98, 999), (1, 2)
        CHECK.due("9: four times turned x", x.outline(4, 12, 0), 1);
        CHECK.due("9: four times turned y", x.outline(4, 12, 1), 2);
        CHECK.due("9: three times turned x", x.outline(3, 9, 0), -98);
    }
}
