import java.util.Arrays;

/** A foundry of type in whole numbers. What each method promises stands in DOC.md; README.md tells how to use it. */
public final class TypeFoundry {
    public static final int NONE = -1;

    private static final int MOST_GLYPHS = 40;
    private static final int MOST_POINTS = 40;
    private static final int LEAST_POINTS_OF_CONTOUR = 3;
    private static final int MOST_PARTS = 4;
    private static final int MOST_DEPTH = 4;
    private static final int MOST_PART_POINTS = 120;
    private static final int MOST_OUTLINE_POINTS = MOST_POINTS + MOST_PART_POINTS;
    private static final int LEAST_PLACE = -2000;
    private static final int MOST_PLACE = 4000;
    private static final int MOST_SHIFT = 4000;
    private static final int MOST_WIDTH = 4000;
    private static final int MOST_TURN = 7;
    private static final int QUARTERS = 4;
    private static final int WHOLE = 1024;
    private static final int MOST_HEIGHTS = 8;
    private static final int STEPS = 8;
    private static final int SPAN = 2048;
    private static final int LEAST_SIDE = 32;
    private static final int BLACK = 255;
    private static final int MOST_CLASS = 15;
    private static final int MOST_KERNING = 1000;
    private static final int MOST_PAIRS = 40;
    private static final int LOOKUPS = 8;
    private static final int MOST_RULES = 40;
    private static final int MOST_INPUT = 4;
    private static final int MOST_CONTEXT = 2;
    private static final int MOST_TEXT = 60;

    private final Blend blend;
    private final Glyph[] glyphs;
    private final Outline gathered;
    private final Path path;
    private final Heights heights;
    private final Canvas canvas;
    private final Kerning kerning;
    private final Setter setter;
    private int glyphCount;

    public TypeFoundry(int masters) {
        blend = new Blend(masters == 2 || masters == 4 ? masters : 1);
        glyphs = new Glyph[MOST_GLYPHS];
        gathered = new Outline();
        path = new Path();
        heights = new Heights();
        canvas = new Canvas();
        kerning = new Kerning();
        setter = new Setter();
    }

    public int glyph() throws IllegalStateException {
        if (glyphCount >= MOST_GLYPHS) {
            throw new IllegalStateException("there are 40 glyphs");
        }
        glyphs[glyphCount] = new Glyph(blend.masters);
        return glyphCount++;
    }

    public int point(int glyph, int x, int y, boolean on) throws IllegalArgumentException, IllegalStateException {
        Glyph found = find(glyph);
        if (found == null || !isPlace(x, y)) {
            throw new IllegalArgumentException("no such glyph or place");
        }
        if (found.locked || found.points >= MOST_POINTS) {
            throw new IllegalStateException("the glyph is locked or has 40 points");
        }
        return found.addPoint(x, y, on);
    }

    public boolean close(int glyph) {
        Glyph found = find(glyph);
        return found != null && found.endContour();
    }

    public void place(int glyph, int point, int master, int x, int y)
            throws IndexOutOfBoundsException, IllegalArgumentException {
        Glyph found = find(glyph);
        if (found == null || !within(point, 0, found.points - 1) || !blend.hasMaster(master)) {
            throw new IndexOutOfBoundsException("no such glyph, point or master");
        }
        if (!isPlace(x, y)) {
            throw new IllegalArgumentException("no such place");
        }
        found.movePoint(point, master, x, y);
    }

    public void component(int glyph, int other, int dx, int dy, int turn)
            throws IllegalArgumentException, IllegalStateException {
        Glyph found = find(glyph);
        Glyph source = find(other);
        if (found == null || source == null || glyph == other || !isShift(dx, dy) || !within(turn, 0, MOST_TURN)) {
            throw new IllegalArgumentException("no such glyphs, shift or turn");
        }
        if (!found.hasRoomFor(source)) {
            throw new IllegalStateException("the glyph is locked, full or too deep");
        }
        found.addPart(new Part(source, dx, dy, turn));
    }

    public boolean advance(int glyph, int master, int width) {
        Glyph found = find(glyph);
        if (found == null || !blend.hasMaster(master) || !within(width, 0, MOST_WIDTH)) {
            return false;
        }
        found.widths[master] = width;
        return true;
    }

    public boolean instance(int u, int v) {
        if (!within(u, 0, WHOLE) || !within(v, 0, WHOLE)) {
            return false;
        }
        blend.set(u, v);
        return true;
    }

    public int outline(int glyph, int k, int what) throws IndexOutOfBoundsException {
        Glyph found = find(glyph);
        if (found == null || !within(what, 0, 3) || !within(k, NONE, found.outlinePoints() - 1)) {
            throw new IndexOutOfBoundsException("no such glyph, point or what");
        }
        if (k == NONE) {
            return ofWholeOutline(found, what);
        }
        gathered.become(found, blend);
        return gathered.ofPoint(k, what);
    }

    public boolean height(int y) {
        return within(y, LEAST_PLACE, MOST_PLACE) && heights.add(y);
    }

    public int draw(int glyph, int side, boolean fitted) throws IllegalArgumentException {
        Glyph found = find(glyph);
        if (found == null || !isSide(side)) {
            throw new IllegalArgumentException("no such glyph or side");
        }
        gathered.become(found, blend);
        canvas.start(side);
        for (int contour = 0; contour < gathered.contours; contour++) {
            path.follow(gathered, contour);
            if (fitted) {
                path.fit(heights, side);
            }
            canvas.addPath(path);
        }
        return canvas.turnToGreys();
    }

    public int pixel(int i, int j) {
        return canvas.greyAt(i, j);
    }

    public boolean sort(int side, int glyph, int to) {
        if (!within(side, 0, 1) || find(glyph) == null || !within(to, 0, MOST_CLASS)) {
            return false;
        }
        kerning.setClass(side, glyph, to);
        return true;
    }

    public boolean kern(int left, int right, int by) {
        if (!within(left, 1, MOST_CLASS) || !within(right, 1, MOST_CLASS) || !isKerning(by)) {
            return false;
        }
        kerning.tellClasses(left, right, by);
        return true;
    }

    public boolean pair(int left, int right, int by) {
        return find(left) != null && find(right) != null && isKerning(by) && kerning.tellPair(left, right, by);
    }

    public int rule(int lookup, long before, long input, long after, int output)
            throws IllegalArgumentException, IllegalStateException {
        Rule told = new Rule(lookup, before, input, after, output);
        if (!within(lookup, 0, LOOKUPS - 1) || !told.isMadeOf(glyphCount)) {
            throw new IllegalArgumentException("no such lookup or glyphs");
        }
        if (setter.ruleCount >= MOST_RULES) {
            throw new IllegalStateException("there are 40 rules");
        }
        return setter.addRule(told);
    }

    public boolean type(int glyph) {
        return find(glyph) != null && setter.addToText(glyph);
    }

    public int shape() {
        return setter.setRow();
    }

    public int shaped(int i, int what) throws IndexOutOfBoundsException {
        if (what == 0 && within(i, 0, setter.rowSize - 1)) {
            return setter.row[i];
        }
        if (what == 1 && within(i, 0, setter.rowSize)) {
            return xInRow(i);
        }
        throw new IndexOutOfBoundsException("no such glyph of the row or what");
    }

    public int count(int what) {
        switch (what) {
            case 0: return glyphCount;
            case 1: return setter.ruleCount;
            case 2: return heights.size;
            case 3: return setter.textSize;
            case 4: return setter.rowSize;
            case 5: return kerning.pairs;
            case 6: return setter.puts;
            default: return NONE;
        }
    }

    private Glyph find(int number) {
        return within(number, 0, glyphCount - 1) ? glyphs[number] : null;
    }

    private int ofWholeOutline(Glyph glyph, int what) {
        switch (what) {
            case 0: return glyph.outlinePoints();
            case 1: return glyph.outlineContours();
            case 2: return blend.valueOf(glyph.widths, 0);
            default: return glyph.depth;
        }
    }

    private int xInRow(int i) {
        int x = 0;
        for (int k = 0; k < i; k++) {
            x += widthOf(setter.row[k]);
            if (k + 1 < setter.rowSize) {
                x += kerning.of(setter.row[k], setter.row[k + 1]);
            }
        }
        return x;
    }

    private int widthOf(int number) {
        Glyph found = find(number);
        return found == null ? 0 : blend.valueOf(found.widths, 0);
    }

    private static boolean isPlace(int x, int y) {
        return within(x, LEAST_PLACE, MOST_PLACE) && within(y, LEAST_PLACE, MOST_PLACE);
    }

    private static boolean isShift(int dx, int dy) {
        return within(dx, -MOST_SHIFT, MOST_SHIFT) && within(dy, -MOST_SHIFT, MOST_SHIFT);
    }

    private static boolean isSide(int side) {
        return side == LEAST_SIDE || side == 64 || side == 128 || side == 256;
    }

    private static boolean isKerning(int by) {
        return within(by, -MOST_KERNING, MOST_KERNING);
    }

    private static boolean within(int value, int least, int most) {
        return value >= least && value <= most;
    }

    private static int halvesUp(long over, long under) {
        // No caller divides by 0; the language's rule 7 wants every divisor looked at.
        return under == 0 ? 0 : (int) Math.floorDiv(2 * over + under, 2 * under);
    }

    /** Where between the masters all values are taken. */
    private static final class Blend {
        final int masters;
        private int u;
        private int v;

        Blend(int masters) {
            this.masters = masters;
        }

        boolean hasMaster(int master) {
            return within(master, 0, masters - 1);
        }

        void set(int u, int v) {
            this.u = u;
            this.v = v;
        }

        int valueOf(int[] values, int number) {
            int from = number * masters;
            if (masters == 1) {
                return values[from];
            }
            long low = mix(values[from], values[from + 1], u);
            if (masters == 2) {
                return halvesUp(low, WHOLE);
            }
            long high = mix(values[from + 2], values[from + 3], u);
            // Rounded once only, at the end, as the document's one quotient is.
            return halvesUp(mix(low, high, v), WHOLE * WHOLE);
        }

        private static long mix(long first, long second, int share) {
            return first * (WHOLE - share) + second * share;
        }
    }

    private static final class Glyph {
        // What has a value in each master has them side by side, as Blend takes them.
        final int[] xs;
        final int[] ys;
        final int[] widths;
        final boolean[] on = new boolean[MOST_POINTS];
        final int[] ends = new int[MOST_POINTS / LEAST_POINTS_OF_CONTOUR];
        final Part[] parts = new Part[MOST_PARTS];
        int points;
        int contours;
        int depth;
        boolean locked;
        private final int masters;
        private int closedPoints;
        private int partCount;
        // A part is locked, so what it brings to the outline never changes and is summed up once.
        private int partPoints;
        private int partContours;

        Glyph(int masters) {
            this.masters = masters;
            xs = new int[MOST_POINTS * masters];
            ys = new int[MOST_POINTS * masters];
            widths = new int[masters];
        }

        int addPoint(int x, int y, boolean isOn) {
            for (int master = 0; master < masters; master++) {
                movePoint(points, master, x, y);
            }
            on[points] = isOn;
            return points++;
        }

        void movePoint(int point, int master, int x, int y) {
            xs[point * masters + master] = x;
            ys[point * masters + master] = y;
        }

        boolean endContour() {
            if (locked || points - closedPoints < LEAST_POINTS_OF_CONTOUR) {
                return false;
            }
            ends[contours] = points;
            contours++;
            closedPoints = points;
            return true;
        }

        boolean hasRoomFor(Glyph source) {
            return !locked && partCount < MOST_PARTS && source.depth < MOST_DEPTH
                && partPoints + source.outlinePoints() <= MOST_PART_POINTS;
        }

        void addPart(Part part) {
            Glyph source = part.source;
            parts[partCount] = part;
            partCount++;
            partPoints += source.outlinePoints();
            partContours += source.outlineContours();
            depth = Math.max(depth, source.depth + 1);
            source.locked = true;
        }

        int outlinePoints() {
            return closedPoints + partPoints;
        }

        int outlineContours() {
            return contours + partContours;
        }
    }

    /** A component: another glyph, turned and shifted. */
    private static final class Part {
        final Glyph source;
        final int dx;
        final int dy;
        final int turn;

        Part(Glyph source, int dx, int dy, int turn) {
            this.source = source;
            this.dx = dx;
            this.dy = dy;
            this.turn = turn;
        }

        boolean isMirrored() {
            return turn >= QUARTERS;
        }
    }

    /** The outline of one glyph in the instance, gathered anew for each call into the same rows. */
    private static final class Outline {
        final int[] xs = new int[MOST_OUTLINE_POINTS];
        final int[] ys = new int[MOST_OUTLINE_POINTS];
        final boolean[] on = new boolean[MOST_OUTLINE_POINTS];
        // Contour c has the points from starts[c] to before starts[c + 1].
        final int[] starts = new int[MOST_OUTLINE_POINTS / LEAST_POINTS_OF_CONTOUR + 1];
        int contours;
        private final int[] contourOf = new int[MOST_OUTLINE_POINTS];
        private int points;

        void become(Glyph glyph, Blend blend) {
            points = 0;
            contours = 0;
            gather(glyph, blend, 0);
        }

        int ofPoint(int k, int what) {
            switch (what) {
                case 0: return xs[k];
                case 1: return ys[k];
                case 2: return on[k] ? 1 : 0;
                default: return contourOf[k];
            }
        }

        private void gather(Glyph glyph, Blend blend, int level) {
            if (glyph == null || level > MOST_DEPTH) {
                return;
            }
            addContours(glyph, blend);
            for (Part part : glyph.parts) {
                if (part == null) {
                    return;
                }
                int first = contours;
                gather(part.source, blend, level + 1);
                turnAndShift(first, part);
                if (part.isMirrored()) {
                    reverseContours(first);
                }
            }
        }

        private void addContours(Glyph glyph, Blend blend) {
            int point = 0;
            for (int c = 0; c < glyph.contours; c++) {
                for (; point < glyph.ends[c]; point++) {
                    xs[points] = blend.valueOf(glyph.xs, point);
                    ys[points] = blend.valueOf(glyph.ys, point);
                    on[points] = glyph.on[point];
                    contourOf[points] = contours;
                    points++;
                }
                contours++;
                starts[contours] = points;
            }
        }

        private void turnAndShift(int firstContour, Part part) {
            for (int i = starts[firstContour]; i < points; i++) {
                int x = part.isMirrored() ? -xs[i] : xs[i];
                int y = ys[i];
                for (int quarter = part.turn % QUARTERS; quarter > 0; quarter--) {
                    int oldX = x;
                    x = -y;
                    y = oldX;
                }
                xs[i] = x + part.dx;
                ys[i] = y + part.dy;
            }
        }

        private void reverseContours(int firstContour) {
            for (int c = firstContour; c < contours; c++) {
                int last = starts[c + 1] - 1;
                for (int i = starts[c]; i < last; i++) {
                    swap(i, last);
                    last--;
                }
            }
        }

        private void swap(int a, int b) {
            int x = xs[a];
            int y = ys[a];
            boolean wasOn = on[a];
            xs[a] = xs[b];
            ys[a] = ys[b];
            on[a] = on[b];
            xs[b] = x;
            ys[b] = y;
            on[b] = wasOn;
        }
    }

    /** One contour as straight lines: from each corner to the next, and from the last one to the first. */
    private static final class Path {
        // A contour is of one glyph, and each of its points ends at most as many lines as a quadratic has.
        final int[] xs = new int[MOST_POINTS * STEPS];
        final int[] ys = new int[MOST_POINTS * STEPS];
        int size;

        void follow(Outline outline, int contour) {
            int first = outline.starts[contour];
            int end = outline.starts[contour + 1];
            size = 0;
            for (int i = first; i < end; i++) {
                int next = i + 1 < end ? i + 1 : first;
                if (!outline.on[i]) {
                    addQuadratic(outline, i > first ? i - 1 : end - 1, i, next);
                } else if (outline.on[next]) {
                    addCorner(outline.xs[next], outline.ys[next]);
                }
            }
        }

        void fit(Heights heights, int side) {
            for (int i = 0; i < size; i++) {
                ys[i] = heights.fitted(ys[i], side);
            }
        }

        /** The beginning of the quadratic is the corner that the piece ahead of it ended with. */
        private void addQuadratic(Outline outline, int from, int by, int to) {
            int fromX = endAt(outline.xs, from, by, outline.on[from]);
            int fromY = endAt(outline.ys, from, by, outline.on[from]);
            int toX = endAt(outline.xs, to, by, outline.on[to]);
            int toY = endAt(outline.ys, to, by, outline.on[to]);
            for (int k = 1; k <= STEPS; k++) {
                addCorner(onQuadratic(fromX, outline.xs[by], toX, k), onQuadratic(fromY, outline.ys[by], toY, k));
            }
        }

        private void addCorner(int x, int y) {
            xs[size] = x;
            ys[size] = y;
            size++;
        }

        private static int endAt(int[] places, int end, int by, boolean endIsOn) {
            return endIsOn ? places[end] : halvesUp(places[end] + places[by], 2);
        }

        private static int onQuadratic(int a, int b, int c, int k) {
            int rest = STEPS - k;
            return halvesUp(rest * rest * a + 2 * k * rest * b + k * k * c, STEPS * STEPS);
        }
    }

    /** The heights told, the least first. */
    private static final class Heights {
        int size;
        private final int[] ys = new int[MOST_HEIGHTS];

        boolean add(int y) {
            int at = 0;
            while (at < size && ys[at] < y) {
                at++;
            }
            if (size >= MOST_HEIGHTS || at < size && ys[at] == y) {
                return false;
            }
            for (int i = size; i > at; i--) {
                ys[i] = ys[i - 1];
            }
            ys[at] = y;
            size++;
            return true;
        }

        int fitted(int y, int side) {
            if (size == 0) {
                return y;
            }
            if (y <= ys[0]) {
                return y - ys[0] + goal(ys[0], side);
            }
            for (int i = 1; i < size; i++) {
                if (y < ys[i]) {
                    return between(ys[i - 1], ys[i], y, side);
                }
            }
            return y - ys[size - 1] + goal(ys[size - 1], side);
        }

        private static int between(int low, int high, int y, int side) {
            int lowGoal = goal(low, side);
            return lowGoal + halvesUp((y - low) * (goal(high, side) - lowGoal), high - low);
        }

        private static int goal(int y, int side) {
            return side * halvesUp(y, side);
        }
    }

    /** The pixels: covers while lines are added, greys when they have been turned to them. */
    private static final class Canvas {
        private static final int MOST_ACROSS = SPAN / LEAST_SIDE;
        // While lines are added a cell holds twice its pixel's cover less twice that of the pixel to the right of it:
        // so a line changes two cells of a row and not all to the left of it, and twice a mean is a whole number.
        private final int[] cells = new int[MOST_ACROSS * MOST_ACROSS];
        private int side = LEAST_SIDE;
        private int across;

        void start(int newSide) {
            side = newSide;
            across = SPAN / newSide;
            Arrays.fill(cells, 0, across * across, 0);
        }

        void addPath(Path path) {
            int from = path.size - 1;
            for (int to = 0; to < path.size; to++) {
                int fromY = path.ys[from];
                int toY = path.ys[to];
                // A line is cut at the same places whichever way it goes, so all are told upwards.
                if (fromY < toY) {
                    addRising(path.xs[from], fromY, path.xs[to], toY, 1);
                } else if (fromY > toY) {
                    addRising(path.xs[to], toY, path.xs[from], fromY, -1);
                }
                from = to;
            }
        }

        int turnToGreys() {
            int sum = 0;
            for (int row = 0; row < across; row++) {
                int cover = 0;
                for (int column = across - 1; column >= 0; column--) {
                    int cell = row * across + column;
                    cover += cells[cell];
                    cells[cell] = grey(cover);
                    sum += cells[cell];
                }
            }
            return sum;
        }

        int greyAt(int i, int j) {
            boolean isThere = within(i, 0, across - 1) && within(j, 0, across - 1);
            return isThere ? cells[j * across + i] : NONE;
        }

        private int grey(int twiceCover) {
            int grey = halvesUp((long) BLACK * twiceCover, 2 * side * side);
            return Math.max(0, Math.min(BLACK, grey));
        }

        /** Rows outside the pixels are passed over: what is cut there comes to no pixel. */
        private void addRising(int lowX, int lowY, int highX, int highY, int way) {
            int x = lowX;
            int y = lowY;
            for (int row = Math.max(0, firstCut(lowY)); row <= across && row * side < highY; row++) {
                int cut = row * side;
                int cutX = crossing(lowY, lowX, highY, highX, cut);
                addPart(x, y, cutX, cut, way);
                x = cutX;
                y = cut;
            }
            addPart(x, y, highX, highY, way);
        }

        private void addPart(int lowX, int lowY, int highX, int highY, int way) {
            int row = Math.floorDiv(lowY, side);
            if (!within(row, 0, across - 1)) {
                return;
            }
            boolean leansRight = lowX <= highX;
            int left = leansRight ? lowX : highX;
            int leftY = leansRight ? lowY : highY;
            int right = leansRight ? highX : lowX;
            int rightY = leansRight ? highY : lowY;
            int x = left;
            int y = leftY;
            for (int column = Math.max(0, firstCut(left)); column <= across && column * side < right; column++) {
                int cut = column * side;
                int cutY = crossing(left, leftY, right, rightY, cut);
                addRise(row, x, cut, way * Math.abs(cutY - y));
                x = cut;
                y = cutY;
            }
            addRise(row, x, right, way * Math.abs(rightY - y));
        }

        private void addRise(int row, int left, int right, int rise) {
            int column = Math.floorDiv(left, side);
            int whole = 2 * side * rise;
            if (column >= across) {
                cells[row * across + across - 1] += whole;
            } else if (column >= 0) {
                int own = (left + right - 2 * column * side) * rise;
                cells[row * across + column] += own;
                if (column > 0) {
                    cells[row * across + column - 1] += whole - own;
                }
            }
        }

        /** The number of the least multiple of the side above a value. */
        private int firstCut(int value) {
            return Math.floorDiv(value, side) + 1;
        }

        /** Of a line from (a, b) to (c, d) the second value, where the first one is at. */
        private static int crossing(int a, int b, int c, int d, int at) {
            return b + halvesUp((long) (at - a) * (d - b), c - a);
        }
    }

    private static final class Kerning {
        int pairs;
        private final int[] leftClasses = new int[MOST_GLYPHS];
        private final int[] rightClasses = new int[MOST_GLYPHS];
        // What is told for no class stays 0 and stands for what was not told.
        private final int[] ofClasses = new int[(MOST_CLASS + 1) * (MOST_CLASS + 1)];
        private final int[] lefts = new int[MOST_PAIRS];
        private final int[] rights = new int[MOST_PAIRS];
        private final int[] ofPairs = new int[MOST_PAIRS];

        void setClass(int side, int glyph, int to) {
            if (side == 0) {
                leftClasses[glyph] = to;
            } else {
                rightClasses[glyph] = to;
            }
        }

        void tellClasses(int left, int right, int by) {
            ofClasses[left * (MOST_CLASS + 1) + right] = by;
        }

        boolean tellPair(int left, int right, int by) {
            int at = pairAt(left, right);
            if (at >= MOST_PAIRS) {
                return false;
            }
            lefts[at] = left;
            rights[at] = right;
            ofPairs[at] = by;
            pairs = Math.max(pairs, at + 1);
            return true;
        }

        int of(int left, int right) {
            int at = pairAt(left, right);
            if (at < pairs) {
                return ofPairs[at];
            }
            return ofClasses[leftClasses[left] * (MOST_CLASS + 1) + rightClasses[right]];
        }

        /** Where the pair was told; behind all pairs if it was not. */
        private int pairAt(int left, int right) {
            int at = 0;
            while (at < pairs && (lefts[at] != left || rights[at] != right)) {
                at++;
            }
            return at;
        }
    }

    /** Its rows stay as they were told: glyphs + 1 in bytes, the lowest first. */
    private static final class Rule {
        final int lookup;
        final int inputLength;
        final int output;
        private final long before;
        private final long input;
        private final long after;
        private final int beforeLength;
        private final int afterLength;

        Rule(int lookup, long before, long input, long after, int output) {
            this.lookup = lookup;
            this.before = before;
            this.input = input;
            this.after = after;
            this.output = output;
            beforeLength = lengthOf(before, MOST_CONTEXT);
            inputLength = lengthOf(input, MOST_INPUT);
            afterLength = lengthOf(after, MOST_CONTEXT);
        }

        boolean isMadeOf(int glyphs) {
            return inputLength > 0 && isOf(glyphs, before, beforeLength) && isOf(glyphs, input, inputLength)
                && isOf(glyphs, after, afterLength) && within(output, 0, glyphs - 1);
        }

        boolean isLongerThan(Rule other) {
            return other == null || inputLength > other.inputLength;
        }

        boolean fits(int[] row, int size, int at) {
            int behind = at + inputLength;
            return at >= beforeLength && behind + afterLength <= size
                && stands(row, at - beforeLength, before, beforeLength)
                && stands(row, at, input, inputLength)
                && stands(row, behind, after, afterLength);
        }

        private static int lengthOf(long told, int most) {
            int length = 0;
            while (length < most && glyphAt(told, length) != NONE) {
                length++;
            }
            return length;
        }

        /** NONE for the byte 0. */
        private static int glyphAt(long told, int k) {
            return (int) (told >>> 8 * k & 255) - 1;
        }

        private static boolean isOf(int glyphs, long told, int length) {
            for (int k = 0; k < length; k++) {
                if (glyphAt(told, k) >= glyphs) {
                    return false;
                }
            }
            return true;
        }

        private static boolean stands(int[] row, int from, long told, int length) {
            for (int k = 0; k < length; k++) {
                if (row[from + k] != glyphAt(told, k)) {
                    return false;
                }
            }
            return true;
        }
    }

    /** Sets the text that was typed as a row of glyphs, by the rules. */
    private static final class Setter {
        final int[] row = new int[MOST_TEXT];
        int rowSize;
        int textSize;
        int ruleCount;
        int puts;
        private final int[] text = new int[MOST_TEXT];
        private final Rule[] rules = new Rule[MOST_RULES];

        int addRule(Rule told) {
            rules[ruleCount] = told;
            return ruleCount++;
        }

        boolean addToText(int glyph) {
            if (textSize >= MOST_TEXT) {
                return false;
            }
            text[textSize] = glyph;
            textSize++;
            return true;
        }

        int setRow() {
            System.arraycopy(text, 0, row, 0, textSize);
            rowSize = textSize;
            textSize = 0;
            puts = 0;
            for (int lookup = 0; lookup < LOOKUPS; lookup++) {
                run(lookup);
            }
            return rowSize;
        }

        private void run(int lookup) {
            for (int at = 0; at < rowSize; at++) {
                Rule best = bestAt(lookup, at);
                if (best != null) {
                    put(best, at);
                }
            }
        }

        private Rule bestAt(int lookup, int at) {
            Rule best = null;
            for (int i = 0; i < ruleCount; i++) {
                Rule next = rules[i];
                if (next != null && next.lookup == lookup && next.isLongerThan(best) && next.fits(row, rowSize, at)) {
                    best = next;
                }
            }
            return best;
        }

        private void put(Rule found, int at) {
            int behind = at + found.inputLength;
            row[at] = found.output;
            System.arraycopy(row, behind, row, at + 1, rowSize - behind);
            rowSize -= found.inputLength - 1;
            puts++;
        }
    }
}
