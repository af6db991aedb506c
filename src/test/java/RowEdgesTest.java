/** The sentences of the promises 13 to 20 that name an edge, one test for each. */
public final class RowEdgesTest {
    private static final Check CHECK = new Check();

    public static void main(String[] args) {
        p13IfThereIsNoSuchSideGlyphOrClass();
        p13EachClass();
        p14IfOneIsNotInBounds();
        p14EachPairOfClasses();
        p15IfThereAreNoSuchGlyphs();
        p15IfItIsNotInBounds();
        p15If40OtherPairsWereTold();
        p15ToldAnewAnd0IsTold();
        p16IfThereIsNoSuchLookup();
        p16IfInputIsEmpty();
        p16IfARowHasAGlyphThatThereIsNot();
        p16TheLastGlyphInAllRows();
        p16BytesThatAreNotLookedAt();
        p16IfOutputIsNone();
        p16IfThereAre40();
        p17IfThereIsNoSuchGlyph();
        p17IfItHas60();
        p18OfAnEmptyText();
        p18TheTextIsEmptyAndTheOldRowGone();
        p18OfAFullText();
        p19IfThereIsNoneSuch();
        p19BehindAllOfIt();
        p19AllAsTheyAreNow();
        p19OfTheRowNotOfTheText();
        p20NoneForAnotherWhat();
        p20OfAFullObject();
        CHECK.end();
    }

    /** So many glyphs, each 100 wide. */
    private static TypeFoundry of(int glyphs) {
        TypeFoundry x = new TypeFoundry(1);
        for (int i = 0; i < glyphs; i++) {
            x.glyph();
            x.advance(i, 0, 100);
        }
        return x;
    }

    private static void row(TypeFoundry x, int... glyphs) {
        Shapes.type(x, glyphs);
        x.shape();
    }

    private static void rowIs(String what, TypeFoundry x, int... glyphs) {
        CHECK.answer(what, x, Call.count(4), glyphs.length);
        for (int i = 0; i < glyphs.length; i++) {
            CHECK.answer(what, x, Call.shaped(i, 0), glyphs[i]);
        }
    }

    // Promise 13

    private static void p13IfThereIsNoSuchSideGlyphOrClass() {
        CHECK.bounds("13: side", () -> of(2), s -> Call.sort(s, 0, 1), 0, 1, true, false);
        for (int side = 0; side <= 1; side++) {
            int s = side;
            CHECK.bounds("13: glyph", () -> of(2), g -> Call.sort(s, g, 1), 0, 1, true, false);
            CHECK.bounds("13: glyph of 40", () -> of(40), g -> Call.sort(s, g, 1), 0, 39, true, false);
            CHECK.bounds("13: class", () -> of(2), c -> Call.sort(s, 0, c), 0, 15, true, false);
        }
    }

    private static void p13EachClass() {
        TypeFoundry x = of(40);
        row(x, 0, 39);
        for (int c = 1; c <= 15; c++) {
            x.kern(c, 16 - c, 10 * c);
        }
        CHECK.answer("13: in no class at first", x, Call.shaped(1, 1), 100);
        for (int c = 1; c <= 15; c++) {
            x.sort(0, 0, c);
            x.sort(1, 39, 16 - c);
            CHECK.answer("13: class " + c, x, Call.shaped(1, 1), 100 + 10 * c);
        }
        x.sort(0, 0, 0);
        CHECK.answer("13: no left class", x, Call.shaped(1, 1), 100);
        x.sort(0, 0, 15);
        x.sort(1, 39, 0);
        CHECK.answer("13: no right class", x, Call.shaped(1, 1), 100);
    }

    // Promise 14

    private static void p14IfOneIsNotInBounds() {
        CHECK.bounds("14: left", () -> of(1), c -> Call.kern(c, 1, 5), 1, 15, true, false);
        CHECK.bounds("14: right", () -> of(1), c -> Call.kern(1, c, 5), 1, 15, true, false);
        CHECK.bounds("14: by", () -> of(1), b -> Call.kern(1, 1, b), -1000, 1000, true, false);
    }

    private static void p14EachPairOfClasses() {
        TypeFoundry x = of(2);
        row(x, 0, 1);
        int[] classes = {1, 2, 14, 15};
        for (int left : classes) {
            for (int right : classes) {
                x.kern(left, right, 20 * left + right);
            }
        }
        for (int left : classes) {
            for (int right : classes) {
                x.sort(0, 0, left);
                x.sort(1, 1, right);
                CHECK.answer("14: " + left + " and " + right, x, Call.shaped(1, 1), 100 + 20 * left + right);
            }
        }
        for (int by : new int[] {1000, -1000, 0}) {
            CHECK.answer("14: told anew", x, Call.kern(15, 15, by), true);
            CHECK.answer("14: as told", x, Call.shaped(1, 1), 100 + by);
        }
    }

    // Promise 15

    private static void p15IfThereAreNoSuchGlyphs() {
        CHECK.bounds("15: left", () -> of(3), g -> Call.pair(g, 1, 5), 0, 2, true, false);
        CHECK.bounds("15: right", () -> of(3), g -> Call.pair(1, g, 5), 0, 2, true, false);
        CHECK.bounds("15: both", () -> of(40), g -> Call.pair(g, g, 5), 0, 39, true, false);
    }

    private static void p15IfItIsNotInBounds() {
        CHECK.bounds("15: by", () -> of(2), b -> Call.pair(0, 1, b), -1000, 1000, true, false);
    }

    private static TypeFoundry ofFortyPairs() {
        TypeFoundry x = of(7);
        for (int i = 0; i < 40; i++) {
            x.pair(i / 7, i % 7, i - 20);
        }
        return x;
    }

    private static void p15If40OtherPairsWereTold() {
        TypeFoundry almost = of(7);
        for (int i = 0; i < 39; i++) {
            almost.pair(i / 7, i % 7, i);
        }
        CHECK.answer("15: 39 other pairs", almost, Call.pair(6, 6, 7), true);
        CHECK.answer("15: 40 other pairs", almost, Call.pair(6, 5, 7), false);
        CHECK.answer("15: 39 others", almost, Call.pair(6, 6, 9), true);
        TypeFoundry x = ofFortyPairs();
        for (int i = 40; i < 49; i++) {
            CHECK.answer("15: one more", x, Call.pair(i / 7, i % 7, 0), false);
        }
        for (int i = 0; i < 40; i++) {
            CHECK.answer("15: told anew", x, Call.pair(i / 7, i % 7, i + 1), true);
        }
        CHECK.answer("15: 40", x, Call.count(5), 40);
        row(x, 0, 0, 6, 5, 4);
        int[] due = {0, 101, 208, 308, 408};
        // (0, 0) is the first pair, (0, 6) the seventh; (6, 5) was refused, (5, 4) is the fortieth.
        for (int i = 0; i < 4; i++) {
            CHECK.answer("15: as told anew", x, Call.shaped(i, 1), due[i]);
        }
        CHECK.answer("15: the fortieth", x, Call.shaped(4, 1), due[3] + 100 + 40);
    }

    private static void p15ToldAnewAnd0IsTold() {
        TypeFoundry x = of(2);
        row(x, 0, 1);
        x.sort(0, 0, 1);
        x.sort(1, 1, 1);
        x.kern(1, 1, 30);
        CHECK.answer("15: not told", x, Call.shaped(1, 1), 130);
        for (int by : new int[] {1000, -1000, 0, 5}) {
            CHECK.answer("15: told", x, Call.pair(0, 1, by), true);
            CHECK.answer("15: as told", x, Call.shaped(1, 1), 100 + by);
            CHECK.answer("15: one pair", x, Call.count(5), 1);
        }
    }

    // Promise 16

    private static void p16IfThereIsNoSuchLookup() {
        CHECK.bounds("16: lookup", () -> of(1), k -> Call.rule(k, 0, 1, 0, 0), 0, 7, 0, Call.ARGUMENT);
        TypeFoundry x = of(2);
        for (int lookup : new int[] {-8, 8, 9, 1 << 31, 1 << 8}) {
            CHECK.answer("16: lookup", x, Call.rule(lookup, 0, 1, 0, 1), Call.ARGUMENT);
        }
        CHECK.answer("16: lookup 7", x, Call.rule(7, 0, 1, 0, 1), 0);
        row(x, 0, 1);
        rowIs("16: lookup 7 is run", x, 1, 1);
    }

    private static void p16IfInputIsEmpty() {
        for (long input : new long[] {0, 0x0100, 0x01010100, 1L << 8, 1L << 32, Long.MIN_VALUE, -256}) {
            CHECK.answer("16: empty", of(2), Call.rule(0, 0, input, 0, 1), Call.ARGUMENT);
            CHECK.answer("16: empty, the others are not", of(2), Call.rule(0, 1, input, 1, 1), Call.ARGUMENT);
        }
        CHECK.answer("16: the others are empty", of(2), Call.rule(0, 0, 1, 0, 1), 0);
    }

    private static void p16IfARowHasAGlyphThatThereIsNot() {
        for (int glyphs : new int[] {1, 3, 40}) {
            long[] wrong = {glyphs + 1, 127, 128, 129, 255};
            for (int at = 0; at < 4; at++) {
                long ahead = 0x01010101L & (1L << 8 * at) - 1;
                for (int row = 0; row < 3; row++) {
                    if (row == 1 || at < 2) {
                        ofByte(glyphs, row, ahead | (long) glyphs << 8 * at, 0);
                        for (long told : wrong) {
                            ofByte(glyphs, row, ahead | told << 8 * at, Call.ARGUMENT);
                        }
                    }
                }
            }
        }
    }

    private static void p16TheLastGlyphInAllRows() {
        TypeFoundry x = of(40);
        CHECK.answer("16: glyph 39 in all rows", x, Call.rule(0, 0x2828, 0x28282828, 0x2828, 38), 0);
        row(x, 39, 39, 39, 39, 39, 39, 39, 39);
        rowIs("16: glyph 39 in all rows", x, 39, 39, 38, 39, 39);
        TypeFoundry y = of(40);
        CHECK.answer("16: glyph 39 as OUTPUT", y, Call.rule(0, 0, 0x01, 0, 39), 0);
        row(y, 0);
        rowIs("16: glyph 39 as OUTPUT", y, 39);
    }

    private static void ofByte(int glyphs, int row, long told, Object want) {
        Call call = Call.rule(0, row == 0 ? told : 0, row == 1 ? told : 1, row == 2 ? told : 0, 0);
        CHECK.answer("16: of " + glyphs, of(glyphs), call, want);
    }

    private static void p16BytesThatAreNotLookedAt() {
        long[] beyondTwo = {0xFF0000L, 0xFFFFFFFFFFFF0000L, 1L << 16, Long.MIN_VALUE};
        long[] beyondFour = {0xFF00000000L, 0xFFFFFFFF00000000L, 1L << 32, Long.MIN_VALUE};
        for (int i = 0; i < 4; i++) {
            TypeFoundry x = of(4);
            CHECK.answer("16: behind the most", x,
                Call.rule(0, 0x0201 | beyondTwo[i], 0x04030201 | beyondFour[i], 0x0403 | beyondTwo[i], 0), 0);
            row(x, 0, 1, 0, 1, 2, 3, 2, 3);
            rowIs("16: two, four and two are", x, 0, 1, 0, 2, 3);
        }
        TypeFoundry y = of(4);
        CHECK.answer("16: behind a 0", y, Call.rule(0, 0xFF00L, 0xFF0001L, 0xFFFF00L, 3), 0);
        CHECK.answer("16: behind a 0", y, Call.rule(0, 0xFF0001L, 0xFF00030202L, 0xFF0004L, 0), 1);
        row(y, 0, 1, 1, 2, 3);
        rowIs("16: none, one and none; one, three and one", y, 3, 1, 1, 2, 3);
    }

    private static void p16IfOutputIsNone() {
        for (int glyphs : new int[] {1, 3, 40}) {
            CHECK.bounds("16: output", () -> of(glyphs), o -> Call.rule(0, 0, 1, 0, o), 0, glyphs - 1, 0,
                Call.ARGUMENT);
        }
    }

    private static void p16IfThereAre40() {
        TypeFoundry x = of(3);
        for (int i = 0; i < 40; i++) {
            CHECK.answer("16: its number", x, Call.rule(i % 8, 0, i < 39 ? 1 : 2, 0, i < 39 ? 0 : 2), i);
        }
        for (int i = 0; i < 3; i++) {
            CHECK.answer("16: there are 40", x, Call.rule(0, 0, 3, 0, 0), Call.STATE);
        }
        CHECK.answer("16: 40", x, Call.count(1), 40);
        row(x, 1, 2);
        rowIs("16: the last one is run, what was refused is not", x, 2, 2);
    }

    // Promise 17

    private static void p17IfThereIsNoSuchGlyph() {
        for (int glyphs : new int[] {1, 3, 40}) {
            CHECK.bounds("17: glyph", () -> of(glyphs), Call::type, 0, glyphs - 1, true, false);
        }
    }

    private static void p17IfItHas60() {
        TypeFoundry x = of(2);
        Shapes.type(x, new int[59]);
        CHECK.answer("17: the sixtieth", x, Call.type(1), true);
        CHECK.answer("17: has 60", x, Call.type(1), false);
        CHECK.answer("17: has 60, and there is no such glyph", x, Call.type(2), false);
        CHECK.answer("17: 60", x, Call.count(3), 60);
        CHECK.answer("17: shaped", x, Call.shape(), 60);
        CHECK.answer("17: the last one", x, Call.shaped(59, 0), 1);
        CHECK.answer("17: there is room again", x, Call.type(1), true);
    }

    // Promise 18

    private static void p18OfAnEmptyText() {
        TypeFoundry x = of(2);
        x.rule(0, 0, 1, 0, 1);
        CHECK.answer("18: empty", x, Call.shape(), 0);
        CHECK.answer("18: no row", x, Call.count(4), 0);
        row(x, 0, 0);
        CHECK.answer("18: twice put", x, Call.count(6), 2);
        CHECK.answer("18: empty again", x, Call.shape(), 0);
        CHECK.answer("18: the row is gone", x, Call.shaped(0, 0), Call.INDEX);
        CHECK.answer("18: behind it", x, Call.shaped(0, 1), 0);
        CHECK.answer("18: nothing was put", x, Call.count(6), 0);
    }

    private static void p18TheTextIsEmptyAndTheOldRowGone() {
        TypeFoundry x = of(4);
        row(x, 0, 1, 2);
        CHECK.answer("18: the text is empty", x, Call.count(3), 0);
        x.type(3);
        x.type(3);
        CHECK.answer("18: a text of two", x, Call.count(3), 2);
        rowIs("18: typing does not change the row", x, 0, 1, 2);
        CHECK.answer("18: two", x, Call.shape(), 2);
        rowIs("18: what it was before is gone", x, 3, 3);
        CHECK.answer("18: nothing is left of it", x, Call.shaped(2, 0), Call.INDEX);
    }

    private static void p18OfAFullText() {
        TypeFoundry x = of(2);
        x.rule(0, 0x0101, 1, 0x0101, 1);
        Shapes.type(x, new int[60]);
        CHECK.answer("18: 60", x, Call.shape(), 60);
        // At 2 the row is 0 0 [0] 0 0; BEFORE of the next place that fits must be 0 0 again: at 5, 8, .. 56.
        CHECK.answer("18: 19 outputs", x, Call.count(6), 19);
        CHECK.answer("18: the last but one that fits", x, Call.shaped(53, 0), 1);
        CHECK.answer("18: the last place that fits", x, Call.shaped(56, 0), 1);
        CHECK.answer("18: the last place but one", x, Call.shaped(58, 0), 0);
        CHECK.answer("18: the last place", x, Call.shaped(59, 0), 0);
        TypeFoundry y = of(2);
        y.rule(7, 0, 0x01010101, 0, 1);
        Shapes.type(y, new int[60]);
        CHECK.answer("18: 60 by fours", y, Call.shape(), 15);
        CHECK.answer("18: 15 outputs", y, Call.count(6), 15);
        CHECK.answer("18: behind it", y, Call.shaped(15, 1), 1500);
    }

    // Promise 19

    private static void p19IfThereIsNoneSuch() {
        for (int size : new int[] {1, 3, 60}) {
            CHECK.bounds("19: glyph of " + size, () -> rowOf(size), i -> Call.shaped(i, 0), 0, size - 1, 0, Call.INDEX);
            int[] last = {0, size - 1, size};
            for (int i : last) {
                CHECK.answer("19: x of " + size, rowOf(size), Call.shaped(i, 1), 100 * i);
            }
            for (int i : new int[] {-1, size + 1, Integer.MIN_VALUE, Integer.MAX_VALUE}) {
                CHECK.answer("19: x of " + size, rowOf(size), Call.shaped(i, 1), Call.INDEX);
            }
            for (int i : last) {
                for (int what : new int[] {-1, 2, Integer.MIN_VALUE, Integer.MAX_VALUE}) {
                    CHECK.answer("19: no such what", rowOf(size), Call.shaped(i, what), Call.INDEX);
                }
            }
        }
    }

    private static TypeFoundry rowOf(int size) {
        TypeFoundry x = of(1);
        row(x, new int[size]);
        return x;
    }

    private static void p19BehindAllOfIt() {
        TypeFoundry x = of(2);
        CHECK.answer("19: of an empty one", x, Call.shaped(0, 1), 0);
        CHECK.answer("19: it has no glyph", x, Call.shaped(0, 0), Call.INDEX);
        CHECK.answer("19: nor a second end", x, Call.shaped(1, 1), Call.INDEX);
        x.pair(0, 0, 500);
        x.pair(1, 0, -300);
        row(x, 0);
        CHECK.answer("19: the first one", x, Call.shaped(0, 1), 0);
        CHECK.answer("19: behind one, no kerning with itself", x, Call.shaped(1, 1), 100);
        row(x, 1, 0);
        CHECK.answer("19: x below 0", x, Call.shaped(1, 1), -200);
        CHECK.answer("19: behind both", x, Call.shaped(2, 1), -100);
    }

    private static void p19AllAsTheyAreNow() {
        TypeFoundry x = new TypeFoundry(4);
        Shapes.glyphs(x, 2);
        row(x, 0, 1, 0);
        CHECK.answer("19: no widths", x, Call.shaped(3, 1), 0);
        x.advance(0, 0, 4000);
        x.advance(1, 3, 9);
        CHECK.answer("19: a width", x, Call.shaped(3, 1), 8000);
        x.instance(1024, 1024);
        CHECK.answer("19: another instance", x, Call.shaped(3, 1), 9);
        x.pair(0, 1, 70);
        CHECK.answer("19: a pair", x, Call.shaped(3, 1), 79);
        x.sort(0, 1, 3);
        x.sort(1, 0, 4);
        x.kern(3, 4, 600);
        CHECK.answer("19: classes", x, Call.shaped(3, 1), 679);
        x.rule(0, 0, 1, 0, 1);
        x.type(1);
        rowIs("19: the glyphs stay until the next shape()", x, 0, 1, 0);
    }

    /** Glyphs 0, 0 become 3, and 2 becomes 1: the x's are of these, whatever the text was and is. */
    private static void p19OfTheRowNotOfTheText() {
        TypeFoundry x = new TypeFoundry(1);
        int[] widths = {10, 200, 3000, 4000};
        Shapes.glyphs(x, widths.length);
        for (int glyph = 0; glyph < widths.length; glyph++) {
            x.advance(glyph, 0, widths[glyph]);
            x.pair(glyph, glyph, 50 + glyph);
            x.pair(0, glyph, 60 + glyph);
            x.pair(glyph, 2, 70 + glyph);
        }
        x.pair(3, 1, 7);
        x.pair(1, 3, 80);
        x.rule(0, 0, 0x0101, 0, 3);
        x.rule(1, 0, 0x03, 0, 1);
        int[] xs = {0, 4000 + 7, 4207 + 51, 4458 + 80, 8538};
        row(x, 0, 0, 2, 2, 0, 0);
        rowIs("19: what rules put", x, 3, 1, 1, 3);
        xsAre("19: x of what rules put", x, xs);
        Shapes.type(x, 1, 2, 3, 0);
        xsAre("19: x while another text is typed", x, xs);
        row(x);
        rowIs("19: of the other text", x, 1, 1, 3, 0);
        xsAre("19: x of the other text", x, 0, 200 + 51, 451 + 80, 4531, 4541);
    }

    private static void xsAre(String what, TypeFoundry x, int... xs) {
        CHECK.answer(what, x, Call.count(4), xs.length - 1);
        for (int i = 0; i < xs.length; i++) {
            CHECK.answer(what, x, Call.shaped(i, 1), xs[i]);
        }
    }

    // Promise 20

    private static void p20NoneForAnotherWhat() {
        for (int what : new int[] {-1, 7, -7, 8, 6 + (1 << 8), Integer.MIN_VALUE, Integer.MAX_VALUE}) {
            CHECK.answer("20: another what", new TypeFoundry(1), Call.count(what), TypeFoundry.NONE);
            CHECK.answer("20: another what", ofFortyPairs(), Call.count(what), TypeFoundry.NONE);
        }
    }

    private static void p20OfAFullObject() {
        TypeFoundry x = new TypeFoundry(1);
        Shapes.glyphs(x, 40);
        for (int i = 0; i < 40; i++) {
            x.rule(i % 8, 0, 1, 0, i % 8 == 7 ? 1 : 0);
            x.pair(i, 0, 0);
        }
        for (int i = 0; i < 8; i++) {
            x.height(i);
        }
        row(x, new int[60]);
        Shapes.type(x, new int[60]);
        int[] due = {40, 40, 8, 60, 60, 40, 8 * 60};
        for (int what = 0; what < due.length; what++) {
            CHECK.answer("20: full", x, Call.count(what), due[what]);
        }
    }
}
