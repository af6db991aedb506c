import java.util.Arrays;
import java.util.StringJoiner;
import java.util.function.Consumer;
import java.util.function.Function;

/** A call of the face as a value: it can be told, and made on one object or on several. */
record Call(String text, Function<TypeFoundry, Object> body) {
    static final String ARGUMENT = "throws.IllegalArgumentException";
    static final String STATE = "throws.IllegalStateException";
    static final String INDEX = "throws.IndexOutOfBoundsException";
    /** What a call without an answer is said to answer. */
    static final String DONE = "done";

    static Call glyph() {
        return new Call("glyph()", TypeFoundry::glyph);
    }

    static Call point(int glyph, int x, int y, boolean on) {
        return new Call(told("point", glyph, x, y, on), f -> f.point(glyph, x, y, on));
    }

    static Call close(int glyph) {
        return new Call(told("close", glyph), f -> f.close(glyph));
    }

    static Call place(int glyph, int point, int master, int x, int y) {
        return done(told("place", glyph, point, master, x, y), f -> f.place(glyph, point, master, x, y));
    }

    static Call component(int glyph, int other, int dx, int dy, int turn) {
        return done(told("component", glyph, other, dx, dy, turn), f -> f.component(glyph, other, dx, dy, turn));
    }

    static Call advance(int glyph, int master, int width) {
        return new Call(told("advance", glyph, master, width), f -> f.advance(glyph, master, width));
    }

    static Call instance(int u, int v) {
        return new Call(told("instance", u, v), f -> f.instance(u, v));
    }

    static Call outline(int glyph, int k, int what) {
        return new Call(told("outline", glyph, k, what), f -> f.outline(glyph, k, what));
    }

    static Call height(int y) {
        return new Call(told("height", y), f -> f.height(y));
    }

    static Call draw(int glyph, int side, boolean fitted) {
        return new Call(told("draw", glyph, side, fitted), f -> f.draw(glyph, side, fitted));
    }

    static Call pixel(int i, int j) {
        return new Call(told("pixel", i, j), f -> f.pixel(i, j));
    }

    static Call sort(int side, int glyph, int to) {
        return new Call(told("sort", side, glyph, to), f -> f.sort(side, glyph, to));
    }

    static Call kern(int left, int right, int by) {
        return new Call(told("kern", left, right, by), f -> f.kern(left, right, by));
    }

    static Call pair(int left, int right, int by) {
        return new Call(told("pair", left, right, by), f -> f.pair(left, right, by));
    }

    static Call rule(int lookup, long before, long input, long after, int output) {
        return new Call(told("rule", lookup, before, input, after, output),
            f -> f.rule(lookup, before, input, after, output));
    }

    static Call type(int glyph) {
        return new Call(told("type", glyph), f -> f.type(glyph));
    }

    static Call shape() {
        return new Call("shape()", TypeFoundry::shape);
    }

    static Call shaped(int i, int what) {
        return new Call(told("shaped", i, what), f -> f.shaped(i, what));
    }

    static Call count(int what) {
        return new Call(told("count", what), f -> f.count(what));
    }

    /** The answer as the issues write it. The very class of an exception is told. */
    String on(TypeFoundry foundry) {
        try {
            return String.valueOf(body.apply(foundry));
        } catch (RuntimeException e) {
            return "throws." + e.getClass().getSimpleName();
        }
    }

    private static Call done(String text, Consumer<TypeFoundry> body) {
        return new Call(text, f -> {
            body.accept(f);
            return DONE;
        });
    }

    private static String told(String name, Object... arguments) {
        StringJoiner text = new StringJoiner(", ", name + "(", ")");
        Arrays.stream(arguments).forEach(a -> text.add(String.valueOf(a)));
        return text.toString();
    }
}
