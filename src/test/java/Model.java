import java.math.BigInteger;
import java.util.ArrayList;
import java.util.List;

/**
 * The document once more, in fractions of any size and by other ways than the
 * class takes, for tests to compare with. Slow and plain on purpose.
 */
final class Model {
    static final int BAD = -1;
    static final int NONE = -2;
    static final long UNTOLD = -9_000_000_000_000_000_000L;

    /** A fraction in least terms, its denominator above 0. */
    record Frac(BigInteger n, BigInteger d) implements Comparable<Frac> {
        static final Frac ZERO = of(0);
        static final Frac ONE = of(1);

        static Frac of(long v) {
            return new Frac(BigInteger.valueOf(v), BigInteger.ONE);
        }

        static Frac of(BigInteger n, BigInteger d) {
            BigInteger g = n.gcd(d);
            if (d.signum() < 0) {
                g = g.negate();
            }
            return new Frac(n.divide(g), d.divide(g));
        }

        Frac plus(Frac o) {
            return of(n.multiply(o.d).add(o.n.multiply(d)), d.multiply(o.d));
        }

        Frac minus(Frac o) {
            return of(n.multiply(o.d).subtract(o.n.multiply(d)), d.multiply(o.d));
        }

        Frac times(Frac o) {
            return of(n.multiply(o.n), d.multiply(o.d));
        }

        Frac by(Frac o) {
            return of(n.multiply(o.d), d.multiply(o.n));
        }

        int sign() {
            return n.signum();
        }

        @Override
        public int compareTo(Frac o) {
            return n.multiply(o.d).compareTo(o.n.multiply(d));
        }
    }

    record Vec(Frac x, Frac y, Frac z) {
        static Vec of(long x, long y, long z) {
            return new Vec(Frac.of(x), Frac.of(y), Frac.of(z));
        }

        Vec plus(Vec o) {
            return new Vec(x.plus(o.x), y.plus(o.y), z.plus(o.z));
        }

        Vec minus(Vec o) {
            return new Vec(x.minus(o.x), y.minus(o.y), z.minus(o.z));
        }

        Vec times(Frac f) {
            return new Vec(x.times(f), y.times(f), z.times(f));
        }

        Frac dot(Vec o) {
            return x.times(o.x).plus(y.times(o.y)).plus(z.times(o.z));
        }

        Vec cross(Vec o) {
            return new Vec(y.times(o.z).minus(z.times(o.y)),
                z.times(o.x).minus(x.times(o.z)),
                x.times(o.y).minus(y.times(o.x)));
        }

        boolean isZero() {
            return x.sign() == 0 && y.sign() == 0 && z.sign() == 0;
        }

        Frac get(int axis) {
            return axis == 0 ? x : axis == 1 ? y : z;
        }
    }

    static final class Tri {
        final Vec[] corner = new Vec[3];
        int tone;

        Vec normal() {
            return corner[1].minus(corner[0]).cross(corner[2].minus(corner[0]));
        }

        /** How much each corner weighs at a place of the plane, by areas. */
        Frac[] weights(Vec p) {
            Vec n = normal();
            Frac[] w = new Frac[3];
            for (int c = 0; c < 3; c++) {
                Vec u = corner[(c + 1) % 3];
                Vec v = corner[(c + 2) % 3];
                w[c] = u.minus(p).cross(v.minus(p)).dot(n).by(n.dot(n));
            }
            return w;
        }

        /** t of the place at which it is hit; null if it is not. */
        Frac hitBy(Vec e, Vec d) {
            Vec n = normal();
            Frac lean = d.dot(n);
            if (lean.sign() == 0) {
                return null;
            }
            Frac t = corner[0].minus(e).dot(n).by(lean);
            if (t.sign() <= 0) {
                return null;
            }
            for (Frac w : weights(e.plus(d.times(t)))) {
                if (w.sign() < 0) {
                    return null;
                }
            }
            return t;
        }

        int middle(int axis) {
            return corner[0].get(axis).plus(corner[1].get(axis)).plus(corner[2].get(axis)).n().intValueExact();
        }
    }

    static final class Node {
        int first;
        int lower = NONE;
        int upper = NONE;
        int above;
        int depth;
        List<Integer> has;
        int[] box;
    }

    final List<Vec> points = new ArrayList<>();
    final List<Tri> tris = new ArrayList<>();
    Vec eye = Vec.of(0, 0, 0);
    long[][] axes = new long[3][3];
    int w = 1;
    int h = 1;
    final Vec[] lights = {Vec.of(0, 0, 0), Vec.of(0, 0, 0), Vec.of(0, 0, 0), Vec.of(0, 0, 0)};
    final int[] strengths = new int[4];
    final int[] table = new int[16];
    int ambient = 0;
    int back = 0;
    List<Node> nodes = new ArrayList<>();
    List<Integer> order = new ArrayList<>();
    List<Integer> crossed = new ArrayList<>();
    long[] hand = null;

    Model() {
        for (int k = 0; k < 16; k++) {
            table[k] = 17 * k;
        }
    }

    int point(int x, int y, int z) {
        for (int v : new int[] {x, y, z}) {
            if (v < -255 || v > 255) {
                return BAD;
            }
        }
        if (points.size() == 3) {
            return BAD;
        }
        points.add(Vec.of(x, y, z));
        return points.size();
    }

    int triangle(int tone) {
        if (points.size() != 3) {
            return BAD;
        }
        Tri t = new Tri();
        for (int c = 0; c < 3; c++) {
            t.corner[c] = points.get(c);
        }
        t.tone = tone;
        points.clear();
        if (tris.size() == 128 || tone < 0 || tone > 255) {
            return BAD;
        }
        if (t.normal().isZero()) {
            return NONE;
        }
        tris.add(t);
        nodes = new ArrayList<>();
        order = new ArrayList<>();
        return tris.size() - 1;
    }

    void collect(int... c) {
        for (int k = 0; k < c.length; k += 3) {
            point(c[k], c[k + 1], c[k + 2]);
        }
    }

    int put(int tone, int... corners) {
        collect(corners);
        return triangle(tone);
    }

    int eyeAt(int x, int y, int z) {
        collect(x, y, z);
        return eye();
    }

    int lightAt(int which, int strength, int x, int y, int z) {
        collect(x, y, z);
        return light(which, strength);
    }

    boolean isTri(int i) {
        return i >= 0 && i < tris.size();
    }

    int move(int i, int corner) {
        if (!isTri(i) || corner < 0 || corner > 2 || points.size() != 1) {
            return BAD;
        }
        Tri t = tris.get(i);
        Vec was = t.corner[corner];
        t.corner[corner] = points.remove(0);
        if (t.normal().isZero()) {
            t.corner[corner] = was;
            return NONE;
        }
        return 0;
    }

    int drop() {
        int n = points.size();
        points.clear();
        return n;
    }

    int eye() {
        if (points.size() != 1) {
            return BAD;
        }
        eye = points.remove(0);
        return 0;
    }

    static boolean allFit(long[][] axes, int w, int h) {
        for (int x = 0; x < w; x++) {
            for (int y = 0; y < h; y++) {
                for (int a = 0; a < 3; a++) {
                    long d = axes[0][a] + (2L * x - w + 1) * axes[1][a] + (h - 1 - 2L * y) * axes[2][a];
                    if (d < -1023 || d > 1023) {
                        return false;
                    }
                }
            }
        }
        return true;
    }

    int axis(int which, int x, int y, int z) {
        if (which < 0 || which > 2) {
            return BAD;
        }
        long[] was = axes[which];
        axes[which] = new long[] {x, y, z};
        if (!allFit(axes, w, h)) {
            axes[which] = was;
            return BAD;
        }
        return 0;
    }

    int size(int nw, int nh) {
        if (nw < 1 || nw > 32 || nh < 1 || nh > 32 || !allFit(axes, nw, nh)) {
            return BAD;
        }
        w = nw;
        h = nh;
        return 0;
    }

    int light(int which, int strength) {
        if (which < 0 || which > 3 || strength < 0 || strength > 255 || points.size() != 1) {
            return BAD;
        }
        lights[which] = points.remove(0);
        strengths[which] = strength;
        return 0;
    }

    int set(int what, int i, int v) {
        if (what < 0 || what > 3 || v < 0 || v > 255) {
            return BAD;
        }
        int was;
        if (what == 0) {
            if (i < 0 || i > 15) {
                return BAD;
            }
            was = table[i];
            table[i] = v;
        } else if (what == 1) {
            was = ambient;
            ambient = v;
        } else if (what == 2) {
            was = back;
            back = v;
        } else {
            if (!isTri(i)) {
                return BAD;
            }
            was = tris.get(i).tone;
            tris.get(i).tone = v;
        }
        return was;
    }

    int build(int least) {
        if (least < 1 || least > 8) {
            return BAD;
        }
        nodes = new ArrayList<>();
        order = new ArrayList<>();
        List<Integer> all = new ArrayList<>();
        for (int i = 0; i < tris.size(); i++) {
            all.add(i);
        }
        if (!all.isEmpty()) {
            grow(all, least, NONE, 0);
        }
        return nodes.size();
    }

    private int grow(List<Integer> has, int least, int above, int depth) {
        Node node = new Node();
        int me = nodes.size();
        nodes.add(node);
        node.has = has;
        node.above = above;
        node.depth = depth;
        node.first = order.size();
        node.box = boxOf(has);
        if (has.size() <= least) {
            order.addAll(has);
            return me;
        }
        int best = -1;
        int width = -1;
        for (int axis = 0; axis < 3; axis++) {
            final int a = axis;
            int most = has.stream().mapToInt(i -> tris.get(i).middle(a)).max().getAsInt();
            int fewest = has.stream().mapToInt(i -> tris.get(i).middle(a)).min().getAsInt();
            if (most - fewest > width) {
                width = most - fewest;
                best = axis;
            }
        }
        final int a = best;
        List<Integer> sorted = new ArrayList<>(has);
        sorted.sort((i, j) -> {
            int c = Integer.compare(tris.get(i).middle(a), tris.get(j).middle(a));
            return c != 0 ? c : Integer.compare(i, j);
        });
        int half = sorted.size() / 2;
        node.lower = grow(new ArrayList<>(sorted.subList(0, half)), least, me, depth + 1);
        node.upper = grow(new ArrayList<>(sorted.subList(half, sorted.size())), least, me, depth + 1);
        return me;
    }

    private int[] boxOf(List<Integer> has) {
        int[] box = {999, 999, 999, -999, -999, -999};
        for (int i : has) {
            for (Vec c : tris.get(i).corner) {
                for (int a = 0; a < 3; a++) {
                    int v = c.get(a).n().intValueExact();
                    box[a] = Math.min(box[a], v);
                    box[a + 3] = Math.max(box[a + 3], v);
                }
            }
        }
        return box;
    }

    int refit() {
        if (nodes.isEmpty()) {
            return BAD;
        }
        int changed = 0;
        for (Node node : nodes) {
            int[] box = boxOf(node.has);
            if (!java.util.Arrays.equals(box, node.box)) {
                changed++;
            }
            node.box = box;
        }
        return changed;
    }

    int node(int i, int what) {
        if (i < 0 || i >= nodes.size() || what < 0 || what > 10) {
            return BAD;
        }
        Node node = nodes.get(i);
        int[] said = {node.first, node.has.size(), node.lower, node.upper, node.above};
        return what < 5 ? said[what] : node.box[what - 5];
    }

    int order(int k) {
        return k < 0 || k >= order.size() ? BAD : order.get(k);
    }

    boolean isPixel(int x, int y) {
        return x >= 0 && x < w && y >= 0 && y < h;
    }

    Vec ray(int x, int y) {
        long[] d = new long[3];
        for (int a = 0; a < 3; a++) {
            d[a] = axes[0][a] + (2L * x - w + 1) * axes[1][a] + (h - 1 - 2L * y) * axes[2][a];
        }
        return Vec.of(d[0], d[1], d[2]);
    }

    private int first(int x, int y) {
        Vec d = ray(x, y);
        int best = NONE;
        Frac least = null;
        for (int i = 0; i < tris.size(); i++) {
            Frac t = tris.get(i).hitBy(eye, d);
            if (t != null && (least == null || t.compareTo(least) < 0)) {
                least = t;
                best = i;
            }
        }
        return best;
    }

    private Vec placeOf(int x, int y, int i) {
        Vec d = ray(x, y);
        return eye.plus(d.times(tris.get(i).hitBy(eye, d)));
    }

    int hit(int x, int y) {
        if (!isPixel(x, y)) {
            return BAD;
        }
        int i = first(x, y);
        hand = null;
        if (i >= 0) {
            hand = new long[11];
            hand[0] = i;
            Frac t = tris.get(i).hitBy(eye, ray(x, y));
            hand[1] = t.n().longValueExact();
            hand[2] = t.d().longValueExact();
            Vec p = placeOf(x, y, i);
            overOne(new Frac[] {p.x(), p.y(), p.z()}, 3);
            overOne(tris.get(i).weights(p), 7);
        }
        return i;
    }

    /** Three fractions over the least common denominator. */
    private void overOne(Frac[] f, int from) {
        BigInteger d = BigInteger.ONE;
        for (Frac v : f) {
            d = d.multiply(v.d()).divide(d.gcd(v.d()));
        }
        for (int k = 0; k < 3; k++) {
            hand[from + k] = f[k].n().multiply(d.divide(f[k].d())).longValueExact();
        }
        hand[from + 3] = d.longValueExact();
    }

    long told(int what) {
        return hand == null || what < 0 || what > 10 ? UNTOLD : hand[what];
    }

    int cross(int x, int y) {
        if (!isPixel(x, y)) {
            return BAD;
        }
        Vec d = ray(x, y);
        List<Integer> found = new ArrayList<>();
        for (int i = 0; i < tris.size(); i++) {
            if (tris.get(i).hitBy(eye, d) != null) {
                found.add(i);
            }
        }
        found.sort((i, j) -> {
            int c = tris.get(i).hitBy(eye, d).compareTo(tris.get(j).hitBy(eye, d));
            return c != 0 ? c : Integer.compare(i, j);
        });
        crossed = found;
        return found.size();
    }

    int crossing(int k) {
        return k < 0 || k >= crossed.size() ? BAD : crossed.get(k);
    }

    int meets(int x, int y, int what) {
        if (!isPixel(x, y) || what < 0 || what > 1 || nodes.isEmpty()) {
            return BAD;
        }
        return meetsFrom(0, ray(x, y), what);
    }

    private int meetsFrom(int i, Vec d, int what) {
        Node node = nodes.get(i);
        if (d.isZero() || !entersBox(node.box, d)) {
            return 0;
        }
        boolean leaf = node.lower < 0;
        int own = what == 0 ? 1 : leaf ? node.has.size() : 0;
        return leaf ? own : own + meetsFrom(node.lower, d, what) + meetsFrom(node.upper, d, what);
    }

    /** If any place of the ray lies in the box, its start or one where it crosses a side's plane does. */
    private boolean entersBox(int[] box, Vec d) {
        if (inBox(box, eye)) {
            return true;
        }
        for (int a = 0; a < 3; a++) {
            for (int side = 0; side < 2; side++) {
                if (d.get(a).sign() != 0) {
                    Frac t = Frac.of(box[a + 3 * side]).minus(eye.get(a)).by(d.get(a));
                    if (t.sign() >= 0 && inBox(box, eye.plus(d.times(t)))) {
                        return true;
                    }
                }
            }
        }
        return false;
    }

    private static boolean inBox(int[] box, Vec p) {
        for (int a = 0; a < 3; a++) {
            if (p.get(a).compareTo(Frac.of(box[a])) < 0 || p.get(a).compareTo(Frac.of(box[a + 3])) > 0) {
                return false;
            }
        }
        return true;
    }

    private int sideOf(int i, Vec p) {
        return p.minus(tris.get(i).corner[0]).dot(tris.get(i).normal()).sign();
    }

    private int shadowAt(int i, Vec p, Vec light) {
        for (int j = 0; j < tris.size(); j++) {
            if (j != i) {
                Frac s = tris.get(j).hitBy(p, light.minus(p));
                if (s != null && s.compareTo(Frac.ONE) < 0) {
                    return j;
                }
            }
        }
        return NONE;
    }

    private int levelAt(int i, Vec p, Vec light) {
        int side = sideOf(i, light);
        if (side == 0 || side != sideOf(i, eye) || shadowAt(i, p, light) != NONE) {
            return NONE;
        }
        Vec l = light.minus(p);
        Vec n = tris.get(i).normal();
        Frac up = Frac.of(15).times(n.dot(l));
        int best = 0;
        for (int k = 0; k <= 15; k++) {
            if (up.times(up).compareTo(Frac.of((long) k * k).times(n.dot(n)).times(l.dot(l))) >= 0) {
                best = k;
            }
        }
        return best;
    }

    int lit(int x, int y, int which) {
        if (!isPixel(x, y) || which < 0 || which > 3) {
            return BAD;
        }
        int i = first(x, y);
        return i < 0 ? -3 : levelAt(i, placeOf(x, y, i), lights[which]);
    }

    int shadow(int x, int y, int which) {
        if (!isPixel(x, y) || which < 0 || which > 3) {
            return BAD;
        }
        int i = first(x, y);
        if (i < 0) {
            return NONE;
        }
        int side = sideOf(i, lights[which]);
        if (side == 0 || side != sideOf(i, eye)) {
            return NONE;
        }
        return shadowAt(i, placeOf(x, y, i), lights[which]);
    }

    int pixel(int x, int y) {
        if (!isPixel(x, y)) {
            return BAD;
        }
        int i = first(x, y);
        if (i < 0) {
            return back;
        }
        Vec p = placeOf(x, y, i);
        int bright = ambient;
        for (int k = 0; k < 4; k++) {
            int level = levelAt(i, p, lights[k]);
            if (level >= 0) {
                bright += strengths[k] * table[level] / 255;
            }
        }
        return Math.min(255, tris.get(i).tone * bright / 255);
    }

    int picture(int x, int y, int pw, int ph) {
        int s = 1;
        for (int row = 0; row < h; row++) {
            for (int col = 0; col < w; col++) {
                if (col >= x && col < (long) x + pw && row >= y && row < (long) y + ph) {
                    s = 31 * s + pixel(col, row);
                }
            }
        }
        return s;
    }

    int seen(int k) {
        java.util.TreeSet<Integer> all = new java.util.TreeSet<>();
        for (int y = 0; y < h; y++) {
            for (int x = 0; x < w; x++) {
                int i = first(x, y);
                if (i >= 0) {
                    all.add(i);
                }
            }
        }
        return pick(new ArrayList<>(all), k);
    }

    private static int pick(List<Integer> all, int k) {
        if (k == -1) {
            return all.size();
        }
        return k < 0 || k >= all.size() ? BAD : all.get(k);
    }

    int facing(int i) {
        return isTri(i) ? sideOf(i, eye) : -2;
    }

    int touched(int k) {
        if (points.size() < 2) {
            return BAD;
        }
        List<Integer> all = new ArrayList<>();
        for (int i = 0; i < tris.size(); i++) {
            if (leftInBox(tris.get(i), points.get(0), points.get(1))) {
                all.add(i);
            }
        }
        return pick(all, k);
    }

    /** Cuts the triangle by each side of the box: whether anything is left. */
    private static boolean leftInBox(Tri t, Vec p, Vec q) {
        List<Vec> left = new ArrayList<>(List.of(t.corner));
        for (int a = 0; a < 3; a++) {
            boolean turned = p.get(a).compareTo(q.get(a)) > 0;
            left = cut(left, a, (turned ? q : p).get(a), 1);
            left = cut(left, a, (turned ? p : q).get(a), -1);
        }
        return !left.isEmpty();
    }

    private static List<Vec> cut(List<Vec> in, int a, Frac at, int sign) {
        List<Vec> out = new ArrayList<>();
        for (int k = 0; k < in.size(); k++) {
            Vec u = in.get(k);
            Vec v = in.get((k + 1) % in.size());
            int su = sign * u.get(a).compareTo(at);
            int sv = sign * v.get(a).compareTo(at);
            if (su >= 0) {
                out.add(u);
            }
            if (su > 0 && sv < 0 || su < 0 && sv > 0) {
                Frac f = at.minus(u.get(a)).by(v.get(a).minus(u.get(a)));
                out.add(u.plus(v.minus(u).times(f)));
            }
        }
        return out;
    }

    int shared(int i, int j) {
        if (!isTri(i) || !isTri(j) || i == j) {
            return BAD;
        }
        int n = 0;
        for (Vec c : tris.get(i).corner) {
            for (Vec d : tris.get(j).corner) {
                n += c.equals(d) ? 1 : 0;
            }
        }
        return n;
    }

    int count(int what) {
        int burning = 0;
        for (int s : strengths) {
            burning += s > 0 ? 1 : 0;
        }
        int deepest = 0;
        for (Node node : nodes) {
            deepest = Math.max(deepest, node.depth);
        }
        int[] said = {tris.size(), points.size(), nodes.size(), w, h, burning, deepest, crossed.size()};
        return what < 0 || what > 7 ? BAD : said[what];
    }
}
