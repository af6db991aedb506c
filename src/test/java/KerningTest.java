/** Promises 13 to 15: sort, kern, pair. */
public final class KerningTest {
    private static final Check CHECK = new Check();

    public static void main(String[] args) {
        promise13Sort();
        promise14Kern();
        promise15Pair();
        promise15FortyPairs();
        promise15Refused();
        CHECK.end();
    }

    /** Three glyphs 100 wide; the row is 0, 1, 2. */
    private static TypeFoundry threeInARow() {
        TypeFoundry x = new TypeFoundry(1);
        for (int i = 0; i < 3; i++) {
            x.glyph();
            x.advance(i, 0, 100);
            x.type(i);
        }
        x.shape();
        return x;
    }

    private static int kerning(TypeFoundry x, int left) {
        return x.shaped(left + 1, 1) - x.shaped(left, 1) - 100;
    }

    private static void promise13Sort() {
        TypeFoundry x = threeInARow();
        x.kern(15, 1, -20);
        CHECK.due("13: no classes", kerning(x, 0), 0);
        CHECK.yes("13: left", x.sort(0, 0, 15));
        CHECK.due("13: left alone", kerning(x, 0), 0);
        CHECK.yes("13: right", x.sort(1, 1, 1));
        CHECK.due("13: both", kerning(x, 0), -20);
        CHECK.due("13: 1 has no left class", kerning(x, 1), 0);
        int[][] wrong = {{2, 0, 1}, {-1, 0, 1}, {0, 3, 1}, {0, -1, 1}, {0, 0, 16}, {0, 0, -1},
            {0, Integer.MAX_VALUE, 1}, {1, 1, Integer.MIN_VALUE}};
        for (int[] w : wrong) {
            CHECK.no("13: sort " + java.util.Arrays.toString(w), x.sort(w[0], w[1], w[2]));
        }
        CHECK.due("13: nothing was changed", kerning(x, 0), -20);
        CHECK.yes("13: out of it", x.sort(1, 1, 0));
        CHECK.due("13: no right class", kerning(x, 0), 0);
        CHECK.yes("13: in again", x.sort(1, 1, 1));
        CHECK.yes("13: another one", x.sort(0, 0, 14));
        CHECK.due("13: not told for that", kerning(x, 0), 0);
    }

    private static void promise14Kern() {
        TypeFoundry x = threeInARow();
        x.sort(0, 0, 1);
        x.sort(1, 1, 15);
        x.sort(0, 1, 15);
        x.sort(1, 2, 1);
        CHECK.yes("14: least", x.kern(1, 15, -1000));
        CHECK.due("14: as told", kerning(x, 0), -1000);
        CHECK.due("14: not the other way round", kerning(x, 1), 0);
        CHECK.yes("14: greatest", x.kern(15, 1, 1000));
        CHECK.due("14: the other way round", kerning(x, 1), 1000);
        int[][] wrong = {{0, 15, 1}, {16, 15, 1}, {1, 0, 1}, {1, 16, 1}, {-1, 1, 1}, {1, 15, 1001}, {1, 15, -1001},
            {Integer.MIN_VALUE, 1, 1}, {1, 15, Integer.MIN_VALUE}};
        for (int[] w : wrong) {
            CHECK.no("14: kern " + java.util.Arrays.toString(w), x.kern(w[0], w[1], w[2]));
        }
        CHECK.due("14: nothing was changed", kerning(x, 0), -1000);
        CHECK.yes("14: anew", x.kern(1, 15, 3));
        CHECK.due("14: as told anew", kerning(x, 0), 3);
    }

    private static void promise15Pair() {
        TypeFoundry x = threeInARow();
        CHECK.yes("15: greatest", x.pair(0, 1, 1000));
        CHECK.due("15: as told", kerning(x, 0), 1000);
        CHECK.due("15: the other pair", kerning(x, 1), 0);
        CHECK.yes("15: anew", x.pair(0, 1, -1000));
        CHECK.due("15: as told anew", kerning(x, 0), -1000);
        CHECK.due("15: one pair", x.count(5), 1);
        x.sort(0, 0, 1);
        x.sort(1, 1, 1);
        x.kern(1, 1, 55);
        CHECK.due("15: the pair goes before the classes", kerning(x, 0), -1000);
        CHECK.yes("15: 0 is told, too", x.pair(0, 1, 0));
        CHECK.due("15: 0 and not 55", kerning(x, 0), 0);
        CHECK.yes("15: the other way round is another pair", x.pair(1, 0, 9));
        CHECK.due("15: that says nothing of it", kerning(x, 0), 0);
        CHECK.yes("15: a glyph with itself", x.pair(2, 2, 9));
        CHECK.due("15: three pairs", x.count(5), 3);
    }

    private static void promise15FortyPairs() {
        TypeFoundry x = new TypeFoundry(1);
        Shapes.glyphs(x, 40);
        for (int i = 0; i < 40; i++) {
            CHECK.yes("15: pair " + i, x.pair(i, 39 - i, i));
        }
        CHECK.no("15: one more", x.pair(0, 0, 1));
        CHECK.yes("15: the last one anew", x.pair(39, 0, -5));
        CHECK.yes("15: the first one anew", x.pair(0, 39, -6));
        CHECK.due("15: 40 pairs", x.count(5), 40);
        x.type(39);
        x.type(0);
        x.type(0);
        x.type(39);
        x.shape();
        CHECK.due("15: last", x.shaped(1, 1), -5);
        CHECK.due("15: what was refused", x.shaped(2, 1), -5);
        CHECK.due("15: first", x.shaped(3, 1), -11);
    }

    private static void promise15Refused() {
        TypeFoundry x = threeInARow();
        int[][] wrong = {{3, 0, 1}, {0, 3, 1}, {-1, 0, 1}, {0, -1, 1}, {0, 1, 1001}, {0, 1, -1001},
            {0, 1, Integer.MAX_VALUE}, {Integer.MIN_VALUE, 0, 0}};
        for (int[] w : wrong) {
            CHECK.no("15: pair " + java.util.Arrays.toString(w), x.pair(w[0], w[1], w[2]));
        }
        CHECK.due("15: nothing was told", x.count(5), 0);
    }
}
