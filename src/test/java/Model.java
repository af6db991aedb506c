import java.util.ArrayList;
import java.util.Collections;
import java.util.HashMap;
import java.util.List;
import java.util.Map;
import java.util.TreeSet;

/** The document once more, as literally as it goes and with no care for speed: what TypeFoundry is compared with. */
final class Model {
    private record Place(long x, long y) {
    }

    private record Spot(Place at, boolean on) {
    }

    private record Component(int other, int dx, int dy, int turn) {
    }

    private record Line(Place from, Place to) {
    }

    private record ToldRule(int lookup, List<Integer> before, List<Integer> input, List<Integer> after, int output) {
    }

    private static final class Letter {
        final List<Place[]> points = new ArrayList<>();
        final List<Boolean> on = new ArrayList<>();
        final List<List<Integer>> contours = new ArrayList<>();
        List<Integer> open = new ArrayList<>();
        final List<Component> components = new ArrayList<>();
        final long[] widths = new long[4];
    }

    private final int masters;
    private final List<Letter> letters = new ArrayList<>();
    private final TreeSet<Integer> heights = new TreeSet<>();
    private final List<ToldRule> rules = new ArrayList<>();
    private final Map<String, Integer> classes = new HashMap<>();
    private final Map<String, Integer> kerns = new HashMap<>();
    private final Map<String, Integer> pairs = new HashMap<>();
    private List<Integer> text = new ArrayList<>();
    private List<Integer> row = new ArrayList<>();
    private int[][] greys = new int[0][0];
    private int puts = 0;
    private long u = 0;
    private long v = 0;

    Model(int masters) {
        this.masters = masters == 1 || masters == 2 || masters == 4 ? masters : 1;
    }

    int glyph() {
        if (letters.size() == 40) {
            throw new IllegalStateException();
        }
        letters.add(new Letter());
        return letters.size() - 1;
    }

    int point(int glyph, int x, int y, boolean on) {
        if (isNone(glyph) || isOff(x, -2000, 4000) || isOff(y, -2000, 4000)) {
            throw new IllegalArgumentException();
        }
        Letter letter = letters.get(glyph);
        if (isLocked(glyph) || letter.points.size() == 40) {
            throw new IllegalStateException();
        }
        Place at = new Place(x, y);
        letter.points.add(new Place[] {at, at, at, at});
        letter.on.add(on);
        letter.open.add(letter.points.size() - 1);
        return letter.points.size() - 1;
    }

    boolean close(int glyph) {
        if (isNone(glyph) || isLocked(glyph) || letters.get(glyph).open.size() < 3) {
            return false;
        }
        Letter letter = letters.get(glyph);
        letter.contours.add(letter.open);
        letter.open = new ArrayList<>();
        return true;
    }

    int place(int glyph, int point, int master, int x, int y) {
        if (isNone(glyph) || isOff(point, 0, letters.get(glyph).points.size() - 1) || isOff(master, 0, masters - 1)) {
            throw new IndexOutOfBoundsException();
        }
        if (isOff(x, -2000, 4000) || isOff(y, -2000, 4000)) {
            throw new IllegalArgumentException();
        }
        letters.get(glyph).points.get(point)[master] = new Place(x, y);
        return 0;
    }

    int component(int glyph, int other, int dx, int dy, int turn) {
        if (isNone(glyph) || isNone(other) || glyph == other || isOff(dx, -4000, 4000) || isOff(dy, -4000, 4000)
                || isOff(turn, 0, 7)) {
            throw new IllegalArgumentException();
        }
        Letter letter = letters.get(glyph);
        int sum = points(other);
        for (Component c : letter.components) {
            sum += points(c.other);
        }
        if (isLocked(glyph) || letter.components.size() == 4 || depth(other) + 1 > 4 || sum > 120) {
            throw new IllegalStateException();
        }
        letter.components.add(new Component(other, dx, dy, turn));
        return 0;
    }

    boolean advance(int glyph, int master, int width) {
        if (isNone(glyph) || isOff(master, 0, masters - 1) || isOff(width, 0, 4000)) {
            return false;
        }
        letters.get(glyph).widths[master] = width;
        return true;
    }

    boolean instance(int u, int v) {
        if (isOff(u, 0, 1024) || isOff(v, 0, 1024)) {
            return false;
        }
        this.u = u;
        this.v = v;
        return true;
    }

    int outline(int glyph, int k, int what) {
        if (isNone(glyph) || isOff(what, 0, 3) || isOff(k, -1, points(glyph) - 1)) {
            throw new IndexOutOfBoundsException();
        }
        List<List<Spot>> contours = contours(glyph);
        if (k == -1) {
            int[] answers = {points(glyph), contours.size(), (int) width(glyph), depth(glyph)};
            return answers[what];
        }
        int seen = 0;
        for (int c = 0; c < contours.size(); c++) {
            for (Spot spot : contours.get(c)) {
                if (seen == k) {
                    int[] answers = {(int) spot.at.x, (int) spot.at.y, spot.on ? 1 : 0, c};
                    return answers[what];
                }
                seen++;
            }
        }
        throw new AssertionError("no point " + k);
    }

    boolean height(int y) {
        return !isOff(y, -2000, 4000) && heights.size() < 8 && heights.add(y);
    }

    int draw(int glyph, int side, boolean fitted) {
        if (isNone(glyph) || side != 32 && side != 64 && side != 128 && side != 256) {
            throw new IllegalArgumentException();
        }
        List<Line> parts = new ArrayList<>();
        for (List<Spot> contour : contours(glyph)) {
            for (Line line : lines(contour)) {
                Line changed = fitted ? new Line(fit(line.from, side), fit(line.to, side)) : line;
                for (Line part : cutAtY(changed, side)) {
                    parts.addAll(cutAtX(part, side));
                }
            }
        }
        int across = 2048 / side;
        int sum = 0;
        greys = new int[across][across];
        for (int j = 0; j < across; j++) {
            List<Line> inRow = inRow(parts, (long) j * side, (long) (j + 1) * side);
            for (int i = 0; i < across; i++) {
                greys[i][j] = grey(inRow, (long) i * side, side);
                sum += greys[i][j];
            }
        }
        return sum;
    }

    int pixel(int i, int j) {
        return isOff(i, 0, greys.length - 1) || isOff(j, 0, greys.length - 1) ? -1 : greys[i][j];
    }

    boolean sort(int side, int glyph, int to) {
        if (isOff(side, 0, 1) || isNone(glyph) || isOff(to, 0, 15)) {
            return false;
        }
        classes.put(side + "/" + glyph, to);
        return true;
    }

    boolean kern(int left, int right, int by) {
        if (isOff(left, 1, 15) || isOff(right, 1, 15) || isOff(by, -1000, 1000)) {
            return false;
        }
        kerns.put(left + "/" + right, by);
        return true;
    }

    boolean pair(int left, int right, int by) {
        String key = left + "/" + right;
        if (isNone(left) || isNone(right) || isOff(by, -1000, 1000) || !pairs.containsKey(key) && pairs.size() == 40) {
            return false;
        }
        pairs.put(key, by);
        return true;
    }

    int rule(int lookup, long before, long input, long after, int output) {
        ToldRule told = new ToldRule(lookup, rowOf(before, 2), rowOf(input, 4), rowOf(after, 2), output);
        List<Integer> all = new ArrayList<>(told.before);
        all.addAll(told.input);
        all.addAll(told.after);
        all.add(output);
        if (isOff(lookup, 0, 7) || told.input.isEmpty() || all.stream().anyMatch(this::isNone)) {
            throw new IllegalArgumentException();
        }
        if (rules.size() == 40) {
            throw new IllegalStateException();
        }
        rules.add(told);
        return rules.size() - 1;
    }

    boolean type(int glyph) {
        return !isNone(glyph) && text.size() < 60 && text.add(glyph);
    }

    int shape() {
        row = text;
        text = new ArrayList<>();
        puts = 0;
        for (int lookup = 0; lookup < 8; lookup++) {
            int at = 0;
            while (at < row.size()) {
                ToldRule found = null;
                for (int length = 4; length >= 1 && found == null; length--) {
                    for (ToldRule told : rules) {
                        if (found == null && told.lookup == lookup && told.input.size() == length && fits(told, at)) {
                            found = told;
                        }
                    }
                }
                if (found != null) {
                    for (int i = 0; i < found.input.size(); i++) {
                        row.remove(at);
                    }
                    row.add(at, found.output);
                    puts++;
                }
                at++;
            }
        }
        return row.size();
    }

    int shaped(int i, int what) {
        if (isOff(what, 0, 1) || isOff(i, 0, what == 0 ? row.size() - 1 : row.size())) {
            throw new IndexOutOfBoundsException();
        }
        if (what == 0) {
            return row.get(i);
        }
        if (i == 0) {
            return 0;
        }
        int ahead = row.get(i - 1);
        int kerning = i < row.size() ? kerning(ahead, row.get(i)) : 0;
        return shaped(i - 1, 1) + (int) width(ahead) + kerning;
    }

    int count(int what) {
        int[] answers = {letters.size(), rules.size(), heights.size(), text.size(), row.size(), pairs.size(), puts};
        return isOff(what, 0, 6) ? -1 : answers[what];
    }

    private boolean isNone(int glyph) {
        return glyph < 0 || glyph >= letters.size();
    }

    private static boolean isOff(int value, int least, int most) {
        return value < least || value > most;
    }

    private boolean isLocked(int glyph) {
        for (Letter letter : letters) {
            for (Component c : letter.components) {
                if (c.other == glyph) {
                    return true;
                }
            }
        }
        return false;
    }

    private int depth(int glyph) {
        int depth = 0;
        for (Component c : letters.get(glyph).components) {
            depth = Math.max(depth, 1 + depth(c.other));
        }
        return depth;
    }

    private int points(int glyph) {
        int sum = 0;
        for (List<Spot> contour : contours(glyph)) {
            sum += contour.size();
        }
        return sum;
    }

    private static long round(long over, long under) {
        if (under < 0) {
            return round(-over, -under);
        }
        long whole = over / under;
        if (whole * under > over) {
            whole--;
        }
        return 2 * (over - whole * under) >= under ? whole + 1 : whole;
    }

    private long value(long a, long b, long c, long d) {
        if (masters == 1) {
            return a;
        }
        if (masters == 2) {
            return round(a * (1024 - u) + b * u, 1024);
        }
        return round(a * (1024 - u) * (1024 - v) + b * u * (1024 - v) + c * (1024 - u) * v + d * u * v, 1048576);
    }

    private long width(int glyph) {
        long[] w = letters.get(glyph).widths;
        return value(w[0], w[1], w[2], w[3]);
    }

    private List<List<Spot>> contours(int glyph) {
        Letter letter = letters.get(glyph);
        List<List<Spot>> all = new ArrayList<>();
        for (List<Integer> contour : letter.contours) {
            List<Spot> spots = new ArrayList<>();
            for (int point : contour) {
                Place[] p = letter.points.get(point);
                spots.add(new Spot(new Place(value(p[0].x, p[1].x, p[2].x, p[3].x),
                    value(p[0].y, p[1].y, p[2].y, p[3].y)), letter.on.get(point)));
            }
            all.add(spots);
        }
        for (Component c : letter.components) {
            for (List<Spot> contour : contours(c.other)) {
                List<Spot> moved = new ArrayList<>();
                for (Spot spot : contour) {
                    moved.add(new Spot(moved(spot.at, c), spot.on));
                }
                if (c.turn >= 4) {
                    Collections.reverse(moved);
                }
                all.add(moved);
            }
        }
        return all;
    }

    private static Place moved(Place at, Component c) {
        long x = c.turn >= 4 ? -at.x : at.x;
        Place[] turned = {new Place(x, at.y), new Place(-at.y, x), new Place(-x, -at.y), new Place(at.y, -x)};
        Place t = turned[c.turn % 4];
        return new Place(t.x + c.dx, t.y + c.dy);
    }

    /** From one point on the outline, round to it again. */
    private static List<Line> lines(List<Spot> contour) {
        List<Spot> full = new ArrayList<>();
        for (int i = 0; i < contour.size(); i++) {
            Spot spot = contour.get(i);
            Spot next = contour.get((i + 1) % contour.size());
            full.add(spot);
            if (!spot.on && !next.on) {
                full.add(new Spot(new Place(round(spot.at.x + next.at.x, 2), round(spot.at.y + next.at.y, 2)), true));
            }
        }
        int begin = 0;
        while (!full.get(begin).on) {
            begin++;
        }
        Collections.rotate(full, -begin);
        full.add(full.get(0));
        List<Line> lines = new ArrayList<>();
        for (int i = 1; i < full.size(); i++) {
            Place a = full.get(i - 1).at;
            Place b = full.get(i).at;
            if (full.get(i).on) {
                lines.add(new Line(a, b));
                continue;
            }
            Place c = full.get(i + 1).at;
            Place last = a;
            for (int k = 1; k <= 7; k++) {
                Place next = new Place(onCurve(a.x, b.x, c.x, k), onCurve(a.y, b.y, c.y, k));
                lines.add(new Line(last, next));
                last = next;
            }
            lines.add(new Line(last, c));
            i++;
        }
        return lines;
    }

    private static long onCurve(long a, long b, long c, long k) {
        return round((8 - k) * (8 - k) * a + 2 * k * (8 - k) * b + k * k * c, 64);
    }

    private Place fit(Place at, int side) {
        if (heights.isEmpty()) {
            return at;
        }
        long y = at.y;
        if (y <= heights.first()) {
            return new Place(at.x, y + goal(heights.first(), side) - heights.first());
        }
        if (y >= heights.last()) {
            return new Place(at.x, y + goal(heights.last(), side) - heights.last());
        }
        long g = heights.floor((int) y);
        long h = heights.higher((int) y);
        return new Place(at.x, goal(g, side) + round((y - g) * (goal(h, side) - goal(g, side)), h - g));
    }

    private static long goal(long y, long side) {
        return side * round(y, side);
    }

    private static List<Line> cutAtY(Line line, long side) {
        List<Line> turned = new ArrayList<>();
        for (Line part : cutAtX(new Line(flip(line.from), flip(line.to)), side)) {
            turned.add(new Line(flip(part.from), flip(part.to)));
        }
        return turned;
    }

    private static Place flip(Place at) {
        return new Place(at.y, at.x);
    }

    private static List<Line> cutAtX(Line line, long side) {
        Place a = line.from;
        Place b = line.to;
        List<Place> stops = new ArrayList<>();
        long least = Math.min(a.x, b.x);
        long most = Math.max(a.x, b.x);
        for (long x = Math.floorDiv(least, side) * side; x < most; x += side) {
            if (x > least) {
                stops.add(new Place(x, round(a.y * (b.x - a.x) + (b.y - a.y) * (x - a.x), b.x - a.x)));
            }
        }
        if (a.x > b.x) {
            Collections.reverse(stops);
        }
        stops.add(b);
        List<Line> parts = new ArrayList<>();
        Place last = a;
        for (Place stop : stops) {
            parts.add(new Line(last, stop));
            last = stop;
        }
        return parts;
    }

    private static List<Line> inRow(List<Line> parts, long low, long high) {
        List<Line> found = new ArrayList<>();
        for (Line part : parts) {
            if (Math.min(part.from.y, part.to.y) >= low && Math.max(part.from.y, part.to.y) <= high) {
                found.add(part);
            }
        }
        return found;
    }

    private static int grey(List<Line> inRow, long left, long side) {
        long twiceCover = 0;
        for (Line part : inRow) {
            long least = Math.min(part.from.x, part.to.x);
            long most = Math.max(part.from.x, part.to.x);
            long twiceBreadth = part.from.x + part.to.x - 2 * left;
            if (most <= left) {
                twiceBreadth = 0;
            } else if (least >= left + side) {
                twiceBreadth = 2 * side;
            }
            twiceCover += (part.to.y - part.from.y) * twiceBreadth;
        }
        return (int) Math.max(0, Math.min(255, round(255 * twiceCover, 2 * side * side)));
    }

    private static List<Integer> rowOf(long told, int most) {
        List<Integer> glyphs = new ArrayList<>();
        for (int i = 0; i < most; i++) {
            int part = (int) Math.floorMod(told, 256L);
            if (part == 0) {
                break;
            }
            glyphs.add(part - 1);
            told = Math.floorDiv(told, 256L);
        }
        return glyphs;
    }

    private boolean fits(ToldRule told, int at) {
        List<Integer> all = new ArrayList<>(told.before);
        all.addAll(told.input);
        all.addAll(told.after);
        int from = at - told.before.size();
        return from >= 0 && from + all.size() <= row.size() && row.subList(from, from + all.size()).equals(all);
    }

    private int kerning(int left, int right) {
        if (pairs.containsKey(left + "/" + right)) {
            return pairs.get(left + "/" + right);
        }
        int leftClass = classes.getOrDefault("0/" + left, 0);
        int rightClass = classes.getOrDefault("1/" + right, 0);
        return leftClass == 0 || rightClass == 0 ? 0 : kerns.getOrDefault(leftClass + "/" + rightClass, 0);
    }
}
