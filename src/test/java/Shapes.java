/** Glyphs that several tests need. */
final class Shapes {
    private Shapes() {
    }

    /** A new glyph with one closed contour of points on the outline. */
    static int polygon(TypeFoundry foundry, int... places) {
        int glyph = foundry.glyph();
        contour(foundry, glyph, true, places);
        return glyph;
    }

    static void contour(TypeFoundry foundry, int glyph, boolean on, int... places) {
        open(foundry, glyph, on, places);
        foundry.close(glyph);
    }

    static void open(TypeFoundry foundry, int glyph, boolean on, int... places) {
        for (int i = 0; i < places.length; i += 2) {
            foundry.point(glyph, places[i], places[i + 1], on);
        }
    }

    /** One closed contour of points on the outline and off it in turn, the first one on it. */
    static void alternating(TypeFoundry foundry, int glyph, int... places) {
        for (int i = 0; i < places.length; i += 2) {
            foundry.point(glyph, places[i], places[i + 1], i % 4 == 0);
        }
        foundry.close(glyph);
    }

    /** A new glyph: a square of 64 units, one corner of it round. */
    static int roundedSquare(TypeFoundry foundry) {
        int glyph = foundry.glyph();
        foundry.point(glyph, 0, 0, true);
        foundry.point(glyph, 64, 0, false);
        contour(foundry, glyph, true, 64, 64, 0, 64);
        return glyph;
    }

    /** A new glyph with so many points in one closed contour. */
    static int ofPoints(TypeFoundry foundry, int points) {
        int glyph = foundry.glyph();
        for (int i = 0; i < points; i++) {
            foundry.point(glyph, i, i * i, true);
        }
        foundry.close(glyph);
        return glyph;
    }

    static void type(TypeFoundry foundry, int... glyphs) {
        for (int glyph : glyphs) {
            foundry.type(glyph);
        }
    }

    static void glyphs(TypeFoundry foundry, int many) {
        for (int i = 0; i < many; i++) {
            foundry.glyph();
        }
    }
}
