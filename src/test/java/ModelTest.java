import java.util.Random;
import java.util.function.Supplier;

/** Runs of calls by chance, the same ones each time, on TypeFoundry and on the model: each answer must be the same. */
public final class ModelTest {
    private static final int RUNS = 300;
    private static final int CALLS = 512;
    private static final int[] FAR = {
        Integer.MIN_VALUE, Integer.MIN_VALUE + 1, -4001, -2001, -1, 0, 1, 40, 4001, Integer.MAX_VALUE};
    private static final int[] SIDES = {32, 64, 128, 256};
    private static final Check CHECK = new Check();

    private final Random chance;
    private final TypeFoundry real;
    private final Model model;
    private final String run;
    private final int wildness;
    private int glyphs = 0;
    private int calls = 0;

    private ModelTest(int seed) {
        chance = new Random(seed);
        int masters = new int[] {1, 2, 4, 3}[chance.nextInt(4)];
        real = new TypeFoundry(masters);
        model = new Model(masters);
        run = "run " + seed + " of " + masters + " masters: ";
        wildness = chance.nextBoolean() ? 60 : 8;
    }

    public static void main(String[] args) {
        int runs = args.length > 0 ? Integer.parseInt(args[0]) : RUNS;
        for (int seed = 0; seed < runs && CHECK.isClean(); seed++) {
            new ModelTest(seed).go(seed % 3);
        }
        CHECK.end();
    }

    /** A run is about outlines, about rows, or about all. */
    private void go(int about) {
        for (int i = 0; i < 1 + chance.nextInt(about == 1 ? 40 : 12); i++) {
            newGlyph();
        }
        while (calls < CALLS - 1 && CHECK.isClean()) {
            if (about == 0 || about == 2 && chance.nextBoolean()) {
                callOfOutlines();
            } else {
                callOfRows();
            }
        }
        CHECK.note(run + "the last call", answerOf(() -> real.count(0)), answerOf(() -> model.count(0)));
    }

    private void same(String call, Supplier<Object> got, Supplier<Object> want) {
        calls++;
        CHECK.note(run + "call " + calls + " " + call, answerOf(got), answerOf(want));
    }

    private static String answerOf(Supplier<Object> call) {
        try {
            return String.valueOf(call.get());
        } catch (IllegalArgumentException | IllegalStateException | IndexOutOfBoundsException e) {
            return "throws." + e.getClass().getSimpleName();
        }
    }

    private void newGlyph() {
        same("glyph()", real::glyph, model::glyph);
        glyphs = Math.min(40, glyphs + 1);
    }

    private boolean isWild() {
        return chance.nextInt(wildness) == 0;
    }

    /** Mostly a value that is allowed, its edges often; at times one beyond them. */
    private int from(int least, int most) {
        if (isWild()) {
            int kind = chance.nextInt(4);
            return kind == 0 ? FAR[chance.nextInt(FAR.length)] : kind == 1 ? least - 1 : kind == 2 ? most + 1 : most;
        }
        int kind = chance.nextInt(12);
        return kind == 0 ? least : kind == 1 ? most : least + chance.nextInt(Math.max(1, most - least + 1));
    }

    private int someGlyph() {
        return from(0, glyphs - 1);
    }

    private int somePlace() {
        int kind = chance.nextInt(6);
        return kind == 0 ? from(-2000, 4000) : kind == 1 ? 32 * chance.nextInt(65) : chance.nextInt(2100) - 20;
    }

    private void callOfOutlines() {
        int g = someGlyph();
        int kind = chance.nextInt(20);
        if (kind < 6) {
            contour(g);
        } else if (kind < 8) {
            int p = from(0, 39);
            int m = from(0, 3);
            int x = somePlace();
            int y = somePlace();
            same("place(" + g + ", " + p + ", " + m + ", " + x + ", " + y + ")",
                () -> { real.place(g, p, m, x, y); return 0; }, () -> model.place(g, p, m, x, y));
        } else if (kind < 10) {
            int o = someGlyph();
            int x = chance.nextInt(3) == 0 ? from(-4000, 4000) : somePlace();
            int y = chance.nextInt(3) == 0 ? from(-4000, 4000) : somePlace();
            int t = from(0, 7);
            same("component(" + g + ", " + o + ", " + x + ", " + y + ", " + t + ")",
                () -> { real.component(g, o, x, y, t); return 0; }, () -> model.component(g, o, x, y, t));
        } else if (kind < 11) {
            int u = from(0, 1024);
            int v = from(0, 1024);
            same("instance(" + u + ", " + v + ")", () -> real.instance(u, v), () -> model.instance(u, v));
        } else if (kind < 15) {
            int size = g >= 0 && g < glyphs ? model.outline(g, -1, 0) : 0;
            int k = from(-1, size - 1);
            int what = from(0, 3);
            same("outline(" + g + ", " + k + ", " + what + ")",
                () -> real.outline(g, k, what), () -> model.outline(g, k, what));
        } else if (kind < 16) {
            int y = somePlace();
            same("height(" + y + ")", () -> real.height(y), () -> model.height(y));
        } else if (kind < 17) {
            drawing(g);
        } else {
            common(g);
        }
    }

    private void contour(int g) {
        int points = chance.nextInt(7);
        int offs = chance.nextInt(3);
        for (int i = 0; i < points && calls < CALLS - 2; i++) {
            int x = somePlace();
            int y = somePlace();
            boolean on = offs == 0 || offs == 1 && chance.nextBoolean();
            same("point(" + g + ", " + x + ", " + y + ", " + on + ")",
                () -> real.point(g, x, y, on), () -> model.point(g, x, y, on));
        }
        same("close(" + g + ")", () -> real.close(g), () -> model.close(g));
    }

    private void drawing(int g) {
        int side = isWild() ? from(0, 300) : SIDES[chance.nextInt(4)];
        boolean fitted = chance.nextBoolean();
        same("draw(" + g + ", " + side + ", " + fitted + ")",
            () -> real.draw(g, side, fitted), () -> model.draw(g, side, fitted));
        for (int n = 0; n < 6 && calls < CALLS - 2; n++) {
            pixel(from(0, 2048 / SIDES[chance.nextInt(4)] - 1), from(0, 2048 / SIDES[chance.nextInt(4)] - 1));
        }
    }

    private void pixel(int i, int j) {
        same("pixel(" + i + ", " + j + ")", () -> real.pixel(i, j), () -> model.pixel(i, j));
    }

    private void common(int g) {
        int kind = chance.nextInt(4);
        if (kind == 0) {
            newGlyph();
        } else if (kind == 1) {
            int m = from(0, 3);
            int w = from(0, 4000);
            same("advance(" + g + ", " + m + ", " + w + ")", () -> real.advance(g, m, w), () -> model.advance(g, m, w));
        } else if (kind == 2) {
            int what = from(0, 6);
            same("count(" + what + ")", () -> real.count(what), () -> model.count(what));
        } else {
            pixel(from(0, 63), from(0, 63));
        }
    }

    private void callOfRows() {
        int g = fewGlyphs();
        int kind = chance.nextInt(20);
        if (kind < 8) {
            same("type(" + g + ")", () -> real.type(g), () -> model.type(g));
        } else if (kind < 10) {
            rule(g);
        } else if (kind < 11) {
            same("shape()", real::shape, model::shape);
        } else if (kind < 15) {
            int i = from(0, model.count(4));
            int what = from(0, 1);
            same("shaped(" + i + ", " + what + ")", () -> real.shaped(i, what), () -> model.shaped(i, what));
        } else if (kind < 16) {
            int side = from(0, 1);
            int to = chance.nextInt(3) == 0 ? from(0, 15) : chance.nextInt(3);
            same("sort(" + side + ", " + g + ", " + to + ")",
                () -> real.sort(side, g, to), () -> model.sort(side, g, to));
        } else if (kind < 17) {
            int left = chance.nextInt(3) == 0 ? from(1, 15) : chance.nextInt(3);
            int right = chance.nextInt(3) == 0 ? from(1, 15) : chance.nextInt(3);
            int by = from(-1000, 1000);
            same("kern(" + left + ", " + right + ", " + by + ")",
                () -> real.kern(left, right, by), () -> model.kern(left, right, by));
        } else if (kind < 18) {
            int right = fewGlyphs();
            int by = from(-1000, 1000);
            same("pair(" + g + ", " + right + ", " + by + ")",
                () -> real.pair(g, right, by), () -> model.pair(g, right, by));
        } else {
            common(g);
        }
    }

    /** Few of the glyphs, so that rules fit often. */
    private int fewGlyphs() {
        return chance.nextInt(5) == 0 ? someGlyph() : chance.nextInt(Math.min(glyphs, 3));
    }

    private void rule(int output) {
        int lookup = from(0, 7);
        long before = chance.nextInt(3) == 0 ? someRow(2) : 0;
        long input = someRow(4);
        long after = chance.nextInt(3) == 0 ? someRow(2) : 0;
        same("rule(" + lookup + ", " + before + ", " + input + ", " + after + ", " + output + ")",
            () -> real.rule(lookup, before, input, after, output),
            () -> model.rule(lookup, before, input, after, output));
    }

    private long someRow(int most) {
        long row = isWild() ? chance.nextLong() << 8 * chance.nextInt(6) : 0;
        int size = isWild() ? 0 : 1 + chance.nextInt(most);
        for (int i = 0; i < size; i++) {
            row = row << 8 | fewGlyphs() + 1 & 255;
        }
        return row;
    }
}
