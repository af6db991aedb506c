/** Promises 16 to 20: rule, type, shape, shaped, count. */
public final class RowTest {
    private static final Class<IllegalArgumentException> ARGUMENT = IllegalArgumentException.class;
    private static final Class<IllegalStateException> STATE = IllegalStateException.class;
    private static final Class<IndexOutOfBoundsException> INDEX = IndexOutOfBoundsException.class;
    private static final Check CHECK = new Check();

    public static void main(String[] args) {
        promise16Numbers();
        promise16Refused();
        promise16Bytes();
        promise17Type();
        promise18Longest();
        promise18Context();
        promise18LeftToRight();
        promise18Lookups();
        promise18Anew();
        promise18Sixty();
        promise19Shaped();
        promise19Now();
        promise19Refused();
        promise20Count();
        CHECK.end();
    }

    /** Glyphs as rule() is told them, the first one in the lowest byte. */
    private static long told(int... glyphs) {
        long row = 0;
        for (int i = 0; i < glyphs.length; i++) {
            row |= (long) (glyphs[i] + 1) << 8 * i;
        }
        return row;
    }

    private static TypeFoundry of(int glyphs) {
        TypeFoundry x = new TypeFoundry(1);
        Shapes.glyphs(x, glyphs);
        return x;
    }

    private static void due(String what, TypeFoundry x, int[] text, int... want) {
        Shapes.type(x, text);
        StringBuilder got = new StringBuilder();
        int size = x.shape();
        for (int i = 0; i < size; i++) {
            got.append(x.shaped(i, 0)).append(' ');
        }
        StringBuilder all = new StringBuilder();
        for (int glyph : want) {
            all.append(glyph).append(' ');
        }
        CHECK.note(what, got.toString(), all.toString());
    }

    private static int[] text(int... glyphs) {
        return glyphs;
    }

    private static void promise16Numbers() {
        TypeFoundry x = of(40);
        for (int i = 0; i < 40; i++) {
            CHECK.due("16: rule", x.rule(i % 8, told(i), told(39 - i), told(39), i), i);
        }
        CHECK.refused("16: rule 40", STATE, () -> x.rule(0, 0, told(1), 0, 0));
        CHECK.refused("16: argument before state", ARGUMENT, () -> x.rule(0, 0, 0, 0, 0));
        CHECK.refused("16: lookup before state", ARGUMENT, () -> x.rule(8, 0, told(1), 0, 0));
        CHECK.due("16: 40 rules", x.count(1), 40);
    }

    private static void promise16Refused() {
        TypeFoundry x = of(4);
        long[][] wrong = {
            {8, 0, 1, 0, 0}, {-1, 0, 1, 0, 0}, {Integer.MIN_VALUE, 0, 1, 0, 0},
            {0, 0, 0, 0, 0}, {0, 0, 0x0100, 0, 0}, {0, 0, 1L << 32, 0, 0},
            {0, 0, 5, 0, 0}, {0, 0, 0x05010101, 0, 0}, {0, 0, 0xFF, 0, 0}, {0, 0, -1, 0, 0},
            {0, 5, 1, 0, 0}, {0, 0x0501, 1, 0, 0}, {0, 0, 1, 5, 0}, {0, 0, 1, 0x0501, 0}, {0, 0, 1, 0x8001, 0},
            {0, 0, 1, 0, 4}, {0, 0, 1, 0, -1}, {0, 0, 1, 0, Integer.MAX_VALUE}};
        for (long[] w : wrong) {
            CHECK.refused("16: rule " + java.util.Arrays.toString(w), ARGUMENT,
                () -> x.rule((int) w[0], w[1], w[2], w[3], (int) w[4]));
        }
        CHECK.due("16: no rules", x.count(1), 0);
        CHECK.due("16: lookup 7", x.rule(7, 0, told(3), 0, 3), 0);
    }

    private static void promise16Bytes() {
        TypeFoundry x = of(4);
        // Behind a 0, and behind the most, nothing is looked at: not even bytes that are no glyphs.
        CHECK.due("16: behind the most", x.rule(0, 0xFFFF0101L, 0x7F04030201L, 0x810101L, 3), 0);
        CHECK.due("16: behind a 0", x.rule(0, 0xFF0001L, 0xFFFFFF0002L, 0x990002L, 2), 1);
        due("16: two before, four in, two after", x, text(0, 0, 0, 1, 2, 3, 0, 0), 0, 0, 3, 0, 0);
        due("16: one before, one in, one after", x, text(0, 1, 1), 0, 2, 1);
        due("16: none after", x, text(0, 1), 0, 1);
    }

    private static void promise17Type() {
        TypeFoundry x = of(2);
        CHECK.no("17: glyph 2", x.type(2));
        CHECK.no("17: glyph -1", x.type(-1));
        CHECK.no("17: far", x.type(Integer.MIN_VALUE));
        for (int i = 0; i < 60; i++) {
            CHECK.yes("17: type", x.type(i % 2));
        }
        CHECK.no("17: one more", x.type(0));
        CHECK.due("17: 60", x.count(3), 60);
        CHECK.due("17: shape", x.shape(), 60);
        CHECK.yes("17: empty again", x.type(1));
        CHECK.due("17: the last one", x.shaped(59, 0), 1);
    }

    private static void promise18Longest() {
        TypeFoundry x = of(8);
        x.rule(0, 0, told(0), 0, 1);
        x.rule(0, 0, told(0, 0), 0, 2);
        x.rule(0, 0, told(0, 0), 0, 3);
        x.rule(0, 0, told(0, 0, 0, 0), 0, 4);
        due("18: the longest, then the one told first", x, text(0, 0, 0, 0, 0, 0, 0), 4, 2, 1);
        CHECK.due("18: three outputs", x.count(6), 3);
        due("18: none fits", x, text(5, 6, 7), 5, 6, 7);
        CHECK.due("18: no outputs", x.count(6), 0);
        due("18: an empty text", x, text());
    }

    private static void promise18Context() {
        TypeFoundry x = of(8);
        x.rule(0, told(1, 2), told(3), told(4, 5), 6);
        due("18: told first is leftmost", x, text(1, 2, 3, 4, 5), 1, 2, 6, 4, 5);
        due("18: not the other way round", x, text(2, 1, 3, 4, 5), 2, 1, 3, 4, 5);
        due("18: nor behind", x, text(1, 2, 3, 5, 4), 1, 2, 3, 5, 4);
        due("18: the row is too short ahead", x, text(2, 3, 4, 5), 2, 3, 4, 5);
        due("18: the row is too short behind", x, text(1, 2, 3, 4), 1, 2, 3, 4);
        due("18: in the midst", x, text(7, 1, 2, 3, 4, 5, 7), 7, 1, 2, 6, 4, 5, 7);
        TypeFoundry y = of(4);
        y.rule(0, told(1), told(0), 0, 2);
        y.rule(0, 0, told(0, 0), told(3), 1);
        due("18: a context does not count for the length", y, text(1, 0, 0, 3), 1, 1, 3);
    }

    private static void promise18LeftToRight() {
        TypeFoundry x = of(4);
        x.rule(0, told(1), told(0), 0, 1);
        due("18: BEFORE sees what was put", x, text(1, 0, 0, 0), 1, 1, 1, 1);
        CHECK.due("18: three outputs", x.count(6), 3);
        TypeFoundry y = of(4);
        y.rule(0, 0, told(0, 0), 0, 0);
        due("18: it goes on behind the output", y, text(0, 0, 0, 0, 0), 0, 0, 0);
        TypeFoundry z = of(4);
        z.rule(0, 0, told(0), told(0), 1);
        due("18: AFTER sees what is yet to come", z, text(0, 0, 0), 1, 1, 0);
        TypeFoundry w = of(4);
        w.rule(0, 0, told(1, 1), 0, 2);
        w.rule(0, told(2), told(3), 0, 1);
        due("18: nothing is gone back to", w, text(1, 1, 3, 1), 2, 1, 1);
    }

    private static void promise18Lookups() {
        TypeFoundry x = of(6);
        x.rule(7, 0, told(2), 0, 3);
        x.rule(1, 0, told(1), 0, 2);
        x.rule(0, 0, told(0), 0, 1);
        due("18: in order of lookups, not of rules", x, text(0, 1, 2), 3, 3, 3);
        CHECK.due("18: outputs of all lookups", x.count(6), 6);
        TypeFoundry y = of(6);
        y.rule(3, 0, told(1), 0, 2);
        y.rule(5, 0, told(0), 0, 1);
        due("18: a lookup that is done stays done", y, text(0, 1), 1, 2);
    }

    private static void promise18Anew() {
        TypeFoundry x = of(3);
        due("18: first", x, text(0, 1, 2), 0, 1, 2);
        x.type(2);
        CHECK.due("18: typing leaves the row", x.count(4), 3);
        CHECK.due("18: what it was is gone", x.shape(), 1);
        CHECK.due("18: the new one", x.shaped(0, 0), 2);
        CHECK.due("18: the text is empty", x.count(3), 0);
        CHECK.due("18: nothing", x.shape(), 0);
        CHECK.refused("18: no row", INDEX, () -> x.shaped(0, 0));
    }

    private static void promise18Sixty() {
        TypeFoundry x = of(3);
        x.rule(0, 0, told(0, 0, 0), 0, 1);
        x.rule(7, 0, told(1, 1, 1, 1), 0, 2);
        int[] sixty = new int[60];
        due("18: sixty", x, sixty, 2, 2, 2, 2, 2);
        CHECK.due("18: 20 and 5 outputs", x.count(6), 25);
        sixty[57] = 2;
        due("18: up to the last one", x, sixty, 2, 2, 2, 2, 1, 1, 1, 2, 0, 0);
    }

    private static void promise19Shaped() {
        TypeFoundry x = of(3);
        x.advance(0, 0, 100);
        x.advance(1, 0, 20);
        x.pair(0, 1, -7);
        x.pair(1, 0, 3);
        x.pair(0, 0, 1000);
        Shapes.type(x, 0, 1, 2, 0, 1, 0);
        x.shape();
        int[] due = {0, 93, 113, 113, 206, 229, 329};
        for (int i = 0; i < due.length; i++) {
            CHECK.due("19: x of " + i, x.shaped(i, 1), due[i]);
        }
        CHECK.refused("19: x of 7", INDEX, () -> x.shaped(7, 1));
    }

    private static void promise19Now() {
        TypeFoundry x = new TypeFoundry(2);
        int a = x.glyph();
        x.advance(a, 0, 100);
        x.advance(a, 1, 201);
        x.type(a);
        x.type(a);
        x.shape();
        CHECK.due("19: at first", x.shaped(2, 1), 200);
        x.instance(512, 0);
        CHECK.due("19: widths of the instance, each halves up", x.shaped(2, 1), 302);
        x.pair(a, a, -2);
        CHECK.due("19: kerning as it is now", x.shaped(1, 1), 149);
        x.advance(a, 0, 0);
        CHECK.due("19: widths as they are now", x.shaped(2, 1), 200);
    }

    private static void promise19Refused() {
        TypeFoundry x = of(2);
        CHECK.due("19: x of an empty row", x.shaped(0, 1), 0);
        CHECK.refused("19: no glyph 0", INDEX, () -> x.shaped(0, 0));
        CHECK.refused("19: x of 1", INDEX, () -> x.shaped(1, 1));
        x.type(0);
        x.type(1);
        x.shape();
        int[][] wrong = {{2, 0}, {3, 1}, {-1, 0}, {-1, 1}, {0, 2}, {0, -1}, {1, 3},
            {Integer.MAX_VALUE, 1}, {Integer.MIN_VALUE, 1}, {0, Integer.MIN_VALUE}};
        for (int[] w : wrong) {
            CHECK.refused("19: shaped " + w[0] + " " + w[1], INDEX, () -> x.shaped(w[0], w[1]));
        }
    }

    private static void promise20Count() {
        TypeFoundry x = of(5);
        x.rule(0, 0, told(0), 0, 1);
        x.rule(0, 0, told(1), 0, 1);
        for (int i = 0; i < 3; i++) {
            x.height(i);
        }
        for (int i = 0; i < 4; i++) {
            x.type(0);
            x.pair(i, i, 0);
        }
        x.shape();
        for (int i = 0; i < 6; i++) {
            x.type(4);
        }
        int[] due = {5, 2, 3, 6, 4, 4, 4};
        for (int what = 0; what < due.length; what++) {
            CHECK.due("20: count(" + what + ")", x.count(what), due[what]);
        }
        for (int what : new int[] {-1, 7, 8, Integer.MIN_VALUE, Integer.MAX_VALUE}) {
            CHECK.due("20: count(" + what + ")", x.count(what), TypeFoundry.NONE);
        }
        x.shape();
        CHECK.due("20: of the last shape() alone", x.count(6), 0);
    }
}
