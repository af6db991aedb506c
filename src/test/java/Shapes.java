/** Glyphs that several tests need. */
final class Shapes {
    private Shapes() {
    }

    /** A new glyph with one closed contour of points on the outline. */
    static int polygon(TypeFoundry foundry, int... places) {
        int glyph = foundry.glyph();
        contour(foundry, glyph, true, places);
        return glyph;
    }

    static void contour(TypeFoundry foundry, int glyph, boolean on, int... places) {
        open(foundry, glyph, on, places);
        foundry.close(glyph);
    }

    static void open(TypeFoundry foundry, int glyph, boolean on, int... places) {
        for (int i = 0; i < places.length; i += 2) {
            foundry.point(glyph, places[i], places[i + 1], on);
        }
    }

    /** A new glyph with so many points in one closed contour. */
    static int ofPoints(TypeFoundry foundry, int points) {
        int glyph = foundry.glyph();
        for (int i = 0; i < points; i++) {
            foundry.point(glyph, i, i * i, true);
        }
        foundry.close(glyph);
        return glyph;
    }

    static void glyphs(TypeFoundry foundry, int many) {
        for (int i = 0; i < many; i++) {
            foundry.glyph();
        }
    }
}
