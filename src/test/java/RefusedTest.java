import java.util.ArrayList;
import java.util.LinkedHashMap;
import java.util.List;
import java.util.Map;
import java.util.function.Supplier;

/**
 * "A call that throws, or answers false, changes nothing. Of several exceptions the one told first is thrown."
 *
 * Two objects are made alike, and one of them is asked for what it must refuse: whatever is asked then, both must
 * answer the same. The questions are asked in groups, each group of two objects of its own, as an object is used for at
 * most 512 calls.
 */
public final class RefusedTest {
    private static final int FAR = Integer.MAX_VALUE;
    private static final int NEAR = Integer.MIN_VALUE;
    private static final Check CHECK = new Check();

    public static void main(String[] args) {
        changesNothing("empty", RefusedTest::empty, refusedByTheEmpty());
        changesNothing("middling", RefusedTest::middling, refusedByTheMiddling());
        changesNothing("full", RefusedTest::full, refusedByTheFull());
        changesNothing("asked", RefusedTest::middling, answeredByTheMiddling());
        toldFirst();
        CHECK.end();
    }

    private static void changesNothing(String name, Supplier<TypeFoundry> made, Map<Call, String> refused) {
        List<List<Call>> questions = questions(made.get().count(0));
        for (Map.Entry<Call, String> entry : refused.entrySet()) {
            Call call = entry.getKey();
            for (List<Call> group : questions) {
                TypeFoundry with = made.get();
                TypeFoundry without = made.get();
                CHECK.answer(name, with, call, entry.getValue());
                for (Call question : group) {
                    CHECK.note(name + ": " + question.text() + " behind " + call.text(), question.on(with),
                        question.on(without));
                }
            }
        }
    }

    // The objects

    private static TypeFoundry empty() {
        return new TypeFoundry(2);
    }

    /**
     * Glyph 0 is closed, locked and has three open points; 1 has it as a component and two open points; 2 is a curve
     * and free, 3 is without anything, 4 has 40 points.
     */
    private static TypeFoundry middling() {
        TypeFoundry x = new TypeFoundry(4);
        Shapes.polygon(x, 0, 0, 300, 10, 280, 333, 20, 320);
        Shapes.open(x, 0, false, 1, 2, 3, 4, 5, 6);
        Shapes.glyphs(x, 2);
        Shapes.open(x, 1, true, 500, 500, 600, 600);
        x.component(1, 0, 100, 50, 5);
        Shapes.contour(x, 2, false, 0, 0, 400, 0, 400, 400, 0, 400);
        x.glyph();
        Shapes.ofPoints(x, 40);
        for (int master = 0; master < 4; master++) {
            x.advance(0, master, 400 + 10 * master);
            x.advance(2, master, 300 - 20 * master);
            x.place(0, 1, master, 300 + 50 * master, 10);
        }
        x.instance(300, 700);
        x.height(100);
        x.height(333);
        x.draw(2, 128, true);
        x.sort(0, 0, 1);
        x.sort(1, 2, 15);
        x.sort(0, 2, 3);
        x.kern(1, 15, -40);
        x.kern(3, 15, 25);
        x.pair(0, 0, 17);
        x.pair(2, 0, -3);
        x.rule(0, 0, 0x0101, 0, 2);
        x.rule(3, 0x03, 0x02, 0, 3);
        Shapes.type(x, 0, 0, 1, 2, 2, 0, 1);
        x.shape();
        Shapes.type(x, 2, 1);
        return x;
    }

    /**
     * All that may be there is: glyphs 0 and 1 with 40 points, 1 locked and three times in 2, 3 to 7 one in the other,
     * 8 with four components.
     */
    private static TypeFoundry full() {
        TypeFoundry x = new TypeFoundry(1);
        Shapes.ofPoints(x, 40);
        Shapes.ofPoints(x, 40);
        Shapes.glyphs(x, 38);
        for (int i = 0; i < 3; i++) {
            x.component(2, 1, 10 * i, 0, i);
        }
        for (int i = 4; i <= 7; i++) {
            x.component(i, i - 1, i, 0, 0);
        }
        for (int i = 0; i < 4; i++) {
            x.component(8, 9, 0, 0, 0);
        }
        for (int i = 0; i < 8; i++) {
            x.height(90 * i);
        }
        for (int i = 0; i < 40; i++) {
            x.pair(i, 39 - i, i);
            x.rule(i % 8, 0, i % 5 + 1, 0, i % 7);
        }
        x.type(3);
        x.type(0);
        x.shape();
        for (int i = 0; i < 60; i++) {
            x.type(i % 40);
        }
        x.draw(0, 64, true);
        return x;
    }

    // What they refuse

    private static Map<Call, String> refusedByTheEmpty() {
        Map<Call, String> all = new LinkedHashMap<>();
        for (int glyph : new int[] {-1, 0, 1, 40, NEAR, FAR}) {
            ofNoSuchGlyph(all, glyph, glyph);
        }
        all.put(Call.instance(1025, 0), "false");
        all.put(Call.height(-2001), "false");
        all.put(Call.kern(0, 1, 5), "false");
        all.put(Call.pixel(0, 0), "-1");
        all.put(Call.shaped(0, 0), Call.INDEX);
        all.put(Call.shaped(1, 1), Call.INDEX);
        all.put(Call.count(7), "-1");
        return all;
    }

    private static void ofNoSuchGlyph(Map<Call, String> all, int glyph, int other) {
        all.put(Call.point(glyph, 1, 1, true), Call.ARGUMENT);
        all.put(Call.close(glyph), "false");
        all.put(Call.place(glyph, 0, 0, 7, 7), Call.INDEX);
        all.put(Call.component(glyph, other, 0, 0, 0), Call.ARGUMENT);
        all.put(Call.component(other, glyph, 0, 0, 0), Call.ARGUMENT);
        all.put(Call.advance(glyph, 0, 77), "false");
        all.put(Call.outline(glyph, -1, 0), Call.INDEX);
        all.put(Call.draw(glyph, 32, false), Call.ARGUMENT);
        all.put(Call.draw(glyph, 256, true), Call.ARGUMENT);
        all.put(Call.sort(0, glyph, 2), "false");
        all.put(Call.sort(1, glyph, 2), "false");
        all.put(Call.pair(glyph, other, 9), "false");
        all.put(Call.pair(other, glyph, 9), "false");
        all.put(Call.rule(0, 0, 0x01, 0, glyph), Call.ARGUMENT);
        all.put(Call.rule(0, 0, Math.max(0, Math.min(255, glyph + 1L)), 0, other), Call.ARGUMENT);
        all.put(Call.type(glyph), "false");
    }

    private static Map<Call, String> refusedByTheMiddling() {
        Map<Call, String> all = new LinkedHashMap<>();
        for (int glyph : new int[] {-1, 5, NEAR, FAR}) {
            ofNoSuchGlyph(all, glyph, 2);
        }
        ofPoints(all);
        ofComponents(all);
        ofTheInstance(all);
        ofRows(all);
        return all;
    }

    private static void ofPoints(Map<Call, String> all) {
        for (int off : new int[] {-2001, 4001, NEAR, FAR}) {
            all.put(Call.point(2, off, 0, true), Call.ARGUMENT);
            all.put(Call.point(2, 0, off, false), Call.ARGUMENT);
            all.put(Call.place(0, 0, 0, off, 0), Call.ARGUMENT);
            all.put(Call.place(2, 3, 3, 0, off), Call.ARGUMENT);
            all.put(Call.height(off), "false");
        }
        all.put(Call.point(0, 9, 9, true), Call.STATE);
        all.put(Call.point(4, 9, 9, true), Call.STATE);
        for (int glyph : new int[] {0, 1, 2, 3, 4}) {
            all.put(Call.close(glyph), "false");
        }
        for (int off : new int[] {-1, 4, NEAR, FAR}) {
            all.put(Call.place(2, off, 0, 9, 9), Call.INDEX);
            all.put(Call.place(2, 0, off, 9, 9), Call.INDEX);
            all.put(Call.advance(2, off, 9), "false");
        }
        all.put(Call.place(3, 0, 0, 9, 9), Call.INDEX);
        for (int off : new int[] {-1, 4001, NEAR, FAR}) {
            all.put(Call.advance(0, 2, off), "false");
        }
    }

    private static void ofComponents(Map<Call, String> all) {
        all.put(Call.component(2, 2, 0, 0, 0), Call.ARGUMENT);
        for (int off : new int[] {-4001, 4001, NEAR, FAR}) {
            all.put(Call.component(3, 2, off, 0, 0), Call.ARGUMENT);
            all.put(Call.component(3, 2, 0, off, 0), Call.ARGUMENT);
        }
        for (int off : new int[] {-1, 8, NEAR, FAR}) {
            all.put(Call.component(3, 2, 0, 0, off), Call.ARGUMENT);
        }
        all.put(Call.component(0, 2, 0, 0, 0), Call.STATE);
        all.put(Call.component(0, 1, 0, 0, 0), Call.STATE);
    }

    private static void ofTheInstance(Map<Call, String> all) {
        for (int off : new int[] {-1, 1025, NEAR, FAR}) {
            all.put(Call.instance(off, 5), "false");
            all.put(Call.instance(5, off), "false");
        }
        all.put(Call.height(100), "false");
        all.put(Call.height(333), "false");
        for (int side : new int[] {0, 16, 31, 33, 512, -64, NEAR, FAR}) {
            all.put(Call.draw(0, side, true), Call.ARGUMENT);
        }
        for (int off : new int[] {-1, 16, NEAR, FAR}) {
            all.put(Call.pixel(off, 0), "-1");
            all.put(Call.pixel(0, off), "-1");
        }
        for (int off : new int[] {-2, 4, NEAR, FAR}) {
            all.put(Call.outline(2, off, 0), Call.INDEX);
        }
        all.put(Call.outline(2, 0, 4), Call.INDEX);
        all.put(Call.outline(2, -1, -1), Call.INDEX);
    }

    private static void ofRows(Map<Call, String> all) {
        for (int off : new int[] {-1, 2, NEAR, FAR}) {
            all.put(Call.sort(off, 0, 2), "false");
        }
        for (int off : new int[] {-1, 16, NEAR, FAR}) {
            all.put(Call.sort(0, 0, off), "false");
            all.put(Call.sort(1, 2, off), "false");
            all.put(Call.kern(off, 15, 9), "false");
            all.put(Call.kern(1, off, 9), "false");
        }
        all.put(Call.kern(0, 15, 9), "false");
        all.put(Call.kern(1, 0, 9), "false");
        for (int off : new int[] {-1001, 1001, NEAR, FAR}) {
            all.put(Call.kern(1, 15, off), "false");
            all.put(Call.pair(0, 0, off), "false");
            all.put(Call.pair(1, 1, off), "false");
        }
        for (int off : new int[] {-1, 8, NEAR, FAR}) {
            all.put(Call.rule(off, 0, 0x03, 0, 1), Call.ARGUMENT);
        }
        all.put(Call.rule(0, 0, 0, 0, 1), Call.ARGUMENT);
        all.put(Call.rule(0, 0x06, 0x03, 0, 1), Call.ARGUMENT);
        all.put(Call.rule(0, 0, 0x0603, 0, 1), Call.ARGUMENT);
        all.put(Call.rule(0, 0, 0x03, 0x0601, 1), Call.ARGUMENT);
        for (int off : new int[] {-1, 6, NEAR, FAR}) {
            all.put(Call.shaped(off, 0), Call.INDEX);
        }
        for (int off : new int[] {-1, 7, NEAR, FAR}) {
            all.put(Call.shaped(off, 1), Call.INDEX);
        }
        all.put(Call.shaped(0, 2), Call.INDEX);
        all.put(Call.shaped(0, -1), Call.INDEX);
        all.put(Call.count(-1), "-1");
        all.put(Call.count(7), "-1");
    }

    private static Map<Call, String> refusedByTheFull() {
        Map<Call, String> all = new LinkedHashMap<>();
        for (int glyph : new int[] {-1, 40, NEAR, FAR}) {
            ofNoSuchGlyph(all, glyph, 39);
        }
        all.put(Call.glyph(), Call.STATE);
        all.put(Call.point(0, 5, 5, true), Call.STATE);
        all.put(Call.point(1, 5, 5, true), Call.STATE);
        all.put(Call.close(0), "false");
        all.put(Call.component(1, 10, 0, 0, 0), Call.STATE);
        all.put(Call.component(8, 10, 0, 0, 0), Call.STATE);
        all.put(Call.component(10, 7, 0, 0, 0), Call.STATE);
        all.put(Call.component(2, 0, 0, 0, 0), Call.STATE);
        all.put(Call.height(77), "false");
        all.put(Call.height(90), "false");
        all.put(Call.height(4000), "false");
        all.put(Call.pair(3, 0, 500), "false");
        all.put(Call.pair(39, 39, 500), "false");
        all.put(Call.rule(0, 0, 0x04, 0, 9), Call.STATE);
        all.put(Call.rule(7, 0x01, 0x28282828, 0x01, 39), Call.STATE);
        all.put(Call.type(0), "false");
        all.put(Call.type(39), "false");
        return all;
    }

    /** Questions that are answered change nothing, either. */
    private static Map<Call, String> answeredByTheMiddling() {
        Map<Call, String> all = new LinkedHashMap<>();
        all.put(Call.outline(1, 0, 3), "0");
        all.put(Call.outline(1, -1, 0), "4");
        all.put(Call.outline(4, 39, 0), "39");
        all.put(Call.pixel(15, 15), "0");
        all.put(Call.shaped(0, 0), "2");
        all.put(Call.shaped(0, 1), "0");
        all.put(Call.count(6), "2");
        return all;
    }

    // What is asked behind it

    private static List<List<Call>> questions(int glyphs) {
        List<List<Call>> groups = new ArrayList<>();
        groups.add(counts());
        groups.add(ofOutlines(Math.min(10, glyphs)));
        for (int corner = 0; corner < 4; corner++) {
            groups.add(ofPlaces(Math.min(5, glyphs), corner));
        }
        groups.add(ofPixels());
        groups.add(ofDrawing(Math.min(5, glyphs)));
        groups.add(ofTheRow());
        groups.add(moreGlyphs(glyphs));
        groups.add(morePoints(Math.min(12, glyphs)));
        groups.add(moreComponents(Math.min(12, glyphs)));
        groups.add(moreHeights());
        groups.add(morePairs(glyphs));
        groups.add(moreRules());
        groups.add(moreText(Math.min(5, glyphs)));
        return groups;
    }

    private static List<Call> counts() {
        List<Call> calls = new ArrayList<>();
        for (int what = -1; what <= 7; what++) {
            calls.add(Call.count(what));
        }
        return calls;
    }

    private static List<Call> ofOutlines(int glyphs) {
        List<Call> calls = new ArrayList<>();
        for (int glyph = 0; glyph < glyphs; glyph++) {
            for (int what = 0; what <= 3; what++) {
                calls.add(Call.outline(glyph, -1, what));
                calls.add(Call.outline(glyph, 3, what));
            }
        }
        return calls;
    }

    private static List<Call> ofPlaces(int glyphs, int corner) {
        List<Call> calls = new ArrayList<>();
        if (corner > 0) {
            calls.add(Call.instance(corner % 2 * 1024, corner / 2 * 1024));
        }
        for (int glyph = 0; glyph < glyphs; glyph++) {
            calls.add(Call.outline(glyph, -1, 2));
            for (int k = 0; k < 8; k++) {
                calls.add(Call.outline(glyph, k, 0));
                calls.add(Call.outline(glyph, k, 1));
                calls.add(Call.outline(glyph, k, 2));
            }
        }
        return calls;
    }

    private static List<Call> ofPixels() {
        List<Call> calls = new ArrayList<>();
        for (int side = 32; side <= 256; side *= 2) {
            calls.add(Call.pixel(2048 / side - 1, 0));
            calls.add(Call.pixel(2048 / side, 0));
        }
        for (int i = 0; i < 8; i++) {
            for (int j = 0; j < 16; j++) {
                calls.add(Call.pixel(i, j));
            }
        }
        return calls;
    }

    private static List<Call> ofDrawing(int glyphs) {
        List<Call> calls = new ArrayList<>();
        for (int glyph = 0; glyph < glyphs; glyph++) {
            for (int side = 32; side <= 256; side *= 2) {
                calls.add(Call.draw(glyph, side, false));
                calls.add(Call.draw(glyph, side, true));
                calls.add(Call.pixel(1, 1));
            }
        }
        return calls;
    }

    private static List<Call> ofTheRow() {
        List<Call> calls = new ArrayList<>();
        for (int i = 0; i < 9; i++) {
            calls.add(Call.shaped(i, 0));
            calls.add(Call.shaped(i, 1));
        }
        calls.add(Call.shape());
        for (int i = 0; i <= 60; i++) {
            calls.add(Call.shaped(i, 0));
            calls.add(Call.shaped(i, 1));
        }
        calls.add(Call.count(6));
        return calls;
    }

    private static List<Call> moreGlyphs(int glyphs) {
        List<Call> calls = new ArrayList<>();
        for (int glyph = glyphs; glyph <= 40; glyph++) {
            calls.add(Call.glyph());
            calls.add(Call.outline(glyph, -1, 2));
            calls.add(Call.point(glyph, 3, 4, false));
            calls.add(Call.type(glyph));
        }
        return calls;
    }

    private static List<Call> morePoints(int glyphs) {
        List<Call> calls = new ArrayList<>();
        for (int glyph = 0; glyph < glyphs; glyph++) {
            for (int i = 0; i < 3; i++) {
                calls.add(Call.point(glyph, 11 * i, 30 + 7 * i * i, i == 1));
            }
            calls.add(Call.close(glyph));
            for (int what = 0; what <= 3; what++) {
                calls.add(Call.outline(glyph, -1, what));
                calls.add(Call.outline(glyph, 0, what));
                calls.add(Call.outline(glyph, 6, what));
            }
        }
        return calls;
    }

    private static List<Call> moreComponents(int glyphs) {
        List<Call> calls = new ArrayList<>();
        for (int glyph = 0; glyph < glyphs; glyph++) {
            for (int other = glyph + 1; other < Math.min(glyphs, glyph + 6); other++) {
                calls.add(Call.component(glyph, other, 5, 6, 7));
            }
            calls.add(Call.outline(glyph, -1, 0));
            calls.add(Call.outline(glyph, -1, 1));
            calls.add(Call.outline(glyph, -1, 3));
        }
        return calls;
    }

    private static List<Call> moreHeights() {
        List<Call> calls = new ArrayList<>();
        for (int i = 0; i < 9; i++) {
            calls.add(Call.height(37 * i));
            calls.add(Call.draw(2, 64, true));
            calls.add(Call.pixel(0, 3));
        }
        calls.add(Call.height(77));
        calls.add(Call.height(4000));
        calls.add(Call.count(2));
        return calls;
    }

    private static List<Call> morePairs(int glyphs) {
        List<Call> calls = new ArrayList<>();
        for (int i = 0; i < 41; i++) {
            int glyph = Math.max(0, glyphs - 1);
            calls.add(Call.pair(i % 5, Math.min(glyph, i / 5), 3 * i));
        }
        calls.add(Call.count(5));
        calls.add(Call.shape());
        for (int i = 0; i < 10; i++) {
            calls.add(Call.shaped(i, 1));
        }
        return calls;
    }

    private static List<Call> moreRules() {
        List<Call> calls = new ArrayList<>();
        for (int i = 0; i < 41; i++) {
            calls.add(Call.rule(i % 8, 0, i % 3 + 1, 0, (i + 1) % 3));
        }
        calls.add(Call.shape());
        calls.add(Call.count(6));
        for (int i = 0; i < 10; i++) {
            calls.add(Call.shaped(i, 0));
        }
        return calls;
    }

    private static List<Call> moreText(int glyphs) {
        List<Call> calls = new ArrayList<>();
        for (int i = 0; i < 61; i++) {
            calls.add(Call.type(i % 7 * i % Math.max(1, glyphs)));
        }
        calls.add(Call.shape());
        calls.add(Call.count(6));
        for (int i = 0; i < 61; i++) {
            calls.add(Call.shaped(i, 0));
            calls.add(Call.shaped(i, 1));
        }
        return calls;
    }

    // Of several exceptions the one told first

    private static void toldFirst() {
        toldFirstOfPoint();
        toldFirstOfPlace();
        toldFirstOfComponent();
        toldFirstOfRule();
    }

    private static void toldFirstOfPoint() {
        int[] lockedAndFull = {0, 1};
        for (int glyph : lockedAndFull) {
            String what = "locked or full, and no such place";
            CHECK.answer(what, full(), Call.point(glyph, 4001, 0, true), Call.ARGUMENT);
            CHECK.answer(what, full(), Call.point(glyph, -2001, 0, true), Call.ARGUMENT);
            CHECK.answer(what, full(), Call.point(glyph, 0, 4001, true), Call.ARGUMENT);
            CHECK.answer(what, full(), Call.point(glyph, 0, -2001, true), Call.ARGUMENT);
        }
        CHECK.answer("locked alone, and no such place", middling(), Call.point(0, 0, 4001, true), Call.ARGUMENT);
        CHECK.answer("full alone, and no such place", middling(), Call.point(4, 4001, 0, true), Call.ARGUMENT);
    }

    private static void toldFirstOfPlace() {
        int[][] index = {{-1, 0, 0}, {5, 0, 0}, {2, -1, 0}, {2, 4, 0}, {2, 0, -1}, {2, 0, 4}, {3, 0, 0}, {5, 9, 9}};
        for (int[] row : index) {
            for (int off : new int[] {-2001, 4001}) {
                String what = "no such glyph, point or master, and no such place";
                CHECK.answer(what, middling(), Call.place(row[0], row[1], row[2], off, 0), Call.INDEX);
                CHECK.answer(what, middling(), Call.place(row[0], row[1], row[2], 0, off), Call.INDEX);
            }
        }
    }

    /** Each reason for the first exception with each one for the second. */
    private static void toldFirstOfComponent() {
        int[][] lockedFullDeepAndMany = {{1, 10}, {8, 10}, {10, 7}, {2, 0}};
        int[][] shiftAndTurn = {{4001, 0, 0}, {-4001, 0, 0}, {0, 4001, 0}, {0, -4001, 0}, {0, 0, 8}, {0, 0, -1}};
        for (int[] row : lockedFullDeepAndMany) {
            CHECK.answer("refused", full(), Call.component(row[0], row[1], 0, 0, 0), Call.STATE);
            for (int[] wrong : shiftAndTurn) {
                CHECK.answer("refused, and no such shift or turn", full(),
                    Call.component(row[0], row[1], wrong[0], wrong[1], wrong[2]), Call.ARGUMENT);
            }
            CHECK.answer("refused, and the same", full(), Call.component(row[0], row[0], 0, 0, 0), Call.ARGUMENT);
            CHECK.answer("refused, and no other", full(), Call.component(row[0], 40, 0, 0, 0), Call.ARGUMENT);
            CHECK.answer("refused, and no other", full(), Call.component(row[0], -1, 0, 0, 0), Call.ARGUMENT);
        }
    }

    private static void toldFirstOfRule() {
        long[][] wrong = {{8, 0, 1, 0, 0}, {-1, 0, 1, 0, 0}, {0, 0, 0, 0, 0}, {0, 41, 1, 0, 0}, {0, 0x2901, 1, 0, 0},
            {0, 0, 41, 0, 0}, {0, 0, 0x29010101, 0, 0}, {0, 0, 1, 41, 0}, {0, 0, 1, 0x2901, 0}, {0, 0, 1, 0, 40},
            {0, 0, 1, 0, -1}};
        for (long[] row : wrong) {
            CHECK.answer("there are 40 rules, and it is none", full(),
                Call.rule((int) row[0], row[1], row[2], row[3], (int) row[4]), Call.ARGUMENT);
        }
        CHECK.answer("there are 40 rules", full(), Call.rule(0, 0x2828, 0x28282828, 0x2828, 39), Call.STATE);
    }
}
