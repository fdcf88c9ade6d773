/**
 * A room of triangles that is looked at by rays.
 *
 * All geometry is exact: a place on a ray is kept as whole numbers over one
 * whole number, and the bounds of the document keep these within a long (only
 * the level of a light needs more, see Wide).
 */
public final class RayRoom {
    public static final int BAD = -1, NONE = -2;

    private static final int HITS_NOTHING = -3;
    private static final int NO_SIDE = -2;
    private static final long UNTOLD = -9000000000000000000L;

    private static final int MOST_TRIANGLES = 128;
    private static final int MOST_NODES = 2 * MOST_TRIANGLES - 1;
    private static final int MOST_LIGHTS = 4;
    private static final int LEVELS = 16;
    private static final int BRIGHTEST = 255;

    private final Points points = new Points();
    private final Mesh mesh = new Mesh();
    private final Camera camera = new Camera();
    private final Lamps lamps = new Lamps();
    private final Tree tree = new Tree();
    private final Crossings crossings = new Crossings();
    private final Hit atHand = new Hit();
    private final Hit view = new Hit();
    private final Ray sight = new Ray();
    private final Ray shade = new Ray();
    private final Slope slope = new Slope();
    private final Box box = new Box();
    private final boolean[] marked = new boolean[MOST_TRIANGLES];
    private int back = 0;

    public RayRoom() {
    }

    public int point(int x, int y, int z) {
        return points.collect(x, y, z) ? points.many() : BAD;
    }

    public int triangle(int tone) {
        if (points.many() != 3) {
            return BAD;
        }
        int made = isByte(tone) ? mesh.append(points, tone) : BAD;
        points.clear();
        if (made >= 0) {
            tree.clear();
        }
        return made;
    }

    public int move(int triangle, int corner) {
        if (!mesh.has(triangle) || corner < 0 || corner > 2 || points.many() != 1) {
            return BAD;
        }
        boolean moved = mesh.bend(triangle, corner, points);
        points.clear();
        return moved ? 0 : NONE;
    }

    public int drop() {
        int gone = points.many();
        points.clear();
        return gone;
    }

    public int eye() {
        if (points.many() != 1) {
            return BAD;
        }
        camera.stand(points);
        points.clear();
        return 0;
    }

    public int axis(int which, int x, int y, int z) {
        if (which < 0 || which > 2) {
            return BAD;
        }
        return camera.turn(which, x, y, z) ? 0 : BAD;
    }

    public int size(int w, int h) {
        return camera.frame(w, h) ? 0 : BAD;
    }

    public int light(int which, int strength) {
        if (!Lamps.has(which) || !isByte(strength) || points.many() != 1) {
            return BAD;
        }
        lamps.hang(which, strength, points);
        points.clear();
        return 0;
    }

    public int set(int what, int i, int v) {
        if (!isByte(v)) {
            return BAD;
        }
        switch (what) {
            case 0:
                return i >= 0 && i < LEVELS ? lamps.changeValue(i, v) : BAD;
            case 1:
                return lamps.changeAmbient(v);
            case 2:
                int was = back;
                back = v;
                return was;
            case 3:
                return mesh.has(i) ? mesh.changeTone(i, v) : BAD;
            default:
                return BAD;
        }
    }

    public int build(int least) {
        if (least < 1 || least > 8) {
            return BAD;
        }
        tree.grow(mesh, least);
        return tree.nodes();
    }

    public int refit() {
        return tree.stands() ? tree.fitBoxes(mesh) : BAD;
    }

    public int node(int i, int what) {
        return tree.hasNode(i) ? tree.describe(i, what) : BAD;
    }

    public int order(int k) {
        return tree.hasPlace(k) ? tree.triangleAt(k) : BAD;
    }

    public int hit(int x, int y) {
        if (!camera.hasPixel(x, y)) {
            return BAD;
        }
        look(x, y, atHand);
        return atHand.which;
    }

    public long told(int what) {
        return atHand.isThere() ? atHand.tell(what) : UNTOLD;
    }

    public int cross(int x, int y) {
        if (!camera.hasPixel(x, y)) {
            return BAD;
        }
        crossings.clear();
        camera.aim(x, y, sight);
        for (int i = 0; i < mesh.many(); i++) {
            if (sight.strikes(mesh, i)) {
                crossings.insert(i, sight.far, sight.over);
            }
        }
        return crossings.many();
    }

    public int crossing(int k) {
        return crossings.has(k) ? crossings.triangleAt(k) : BAD;
    }

    public int meets(int x, int y, int what) {
        if (!camera.hasPixel(x, y) || what < 0 || what > 1 || !tree.stands()) {
            return BAD;
        }
        camera.aim(x, y, sight);
        tree.follow(sight);
        return what == 0 ? tree.metNodes() : tree.metTriangles();
    }

    public int lit(int x, int y, int which) {
        if (!camera.hasPixel(x, y) || !Lamps.has(which)) {
            return BAD;
        }
        look(x, y, view);
        return view.isThere() ? levelOf(view, which) : HITS_NOTHING;
    }

    public int shadow(int x, int y, int which) {
        if (!camera.hasPixel(x, y) || !Lamps.has(which)) {
            return BAD;
        }
        look(x, y, view);
        if (!view.isThere() || !isOnEyeSide(view, which)) {
            return NONE;
        }
        lamps.aim(which, view, shade);
        return blocker(view);
    }

    public int pixel(int x, int y) {
        return camera.hasPixel(x, y) ? colour(x, y) : BAD;
    }

    public int picture(int x, int y, int w, int h) {
        // Long ends: x and w together may leave the ints.
        long right = Math.min((long) camera.w, (long) x + w);
        long below = Math.min((long) camera.h, (long) y + h);
        int sum = 1;
        for (int row = Math.max(y, 0); row < below; row++) {
            for (int column = Math.max(x, 0); column < right; column++) {
                sum = 31 * sum + colour(column, row);
            }
        }
        return sum;
    }

    public int seen(int k) {
        if (k < -1) {
            return BAD;
        }
        unmarkAll();
        for (int y = 0; y < camera.h; y++) {
            for (int x = 0; x < camera.w; x++) {
                look(x, y, view);
                if (view.isThere()) {
                    marked[view.which] = true;
                }
            }
        }
        return pickMarked(k);
    }

    public int facing(int triangle) {
        return mesh.has(triangle) ? sign(eyeSide(triangle)) : NO_SIDE;
    }

    public int touched(int k) {
        if (k < -1 || points.many() < 2) {
            return BAD;
        }
        box.span(points);
        for (int i = 0; i < mesh.many(); i++) {
            marked[i] = box.touches(mesh, i);
        }
        return pickMarked(k);
    }

    public int shared(int i, int j) {
        if (!mesh.has(i) || !mesh.has(j) || i == j) {
            return BAD;
        }
        return mesh.commonCorners(i, j);
    }

    public int count(int what) {
        switch (what) {
            case 0:
                return mesh.many();
            case 1:
                return points.many();
            case 2:
                return tree.nodes();
            case 3:
                return camera.w;
            case 4:
                return camera.h;
            case 5:
                return lamps.burning();
            case 6:
                return tree.deepest();
            case 7:
                return crossings.many();
            default:
                return BAD;
        }
    }

    private static boolean isByte(int v) {
        return v >= 0 && v <= BRIGHTEST;
    }

    private static int sign(long v) {
        if (v == 0) {
            return 0;
        }
        return v > 0 ? 1 : -1;
    }

    /** Finds what the ray of a pixel hits first. */
    private void look(int x, int y, Hit found) {
        camera.aim(x, y, sight);
        found.clear();
        for (int i = 0; i < mesh.many(); i++) {
            // Only an earlier hit takes the place, so that of equal ones the lesser number stays.
            if (sight.strikes(mesh, i) && found.isLaterThan(sight)) {
                found.take(sight, i);
            }
        }
    }

    private long eyeSide(int triangle) {
        return mesh.side(triangle, camera.eye[0], camera.eye[1], camera.eye[2]);
    }

    private long lampSide(int triangle, int lamp) {
        return mesh.side(triangle, lamps.at(lamp, 0), lamps.at(lamp, 1), lamps.at(lamp, 2));
    }

    private boolean isOnEyeSide(Hit hit, int lamp) {
        int eyeSign = sign(eyeSide(hit.which));
        return eyeSign != 0 && eyeSign == sign(lampSide(hit.which, lamp));
    }

    /** The level of a light at a hit; NONE if the light does not reach it. */
    private int levelOf(Hit hit, int lamp) {
        if (!isOnEyeSide(hit, lamp)) {
            return NONE;
        }
        lamps.aim(lamp, hit, shade);
        if (blocker(hit) != NONE) {
            return NONE;
        }
        long rise = Math.abs(lampSide(hit.which, lamp)) * hit.over();
        return slope.level(rise, mesh.normalSquare(hit.which), shade.along);
    }

    /** The first triangle between the light that the shade ray comes from and a hit, or NONE. */
    private int blocker(Hit hit) {
        for (int i = 0; i < mesh.many(); i++) {
            // The shade ray reaches the hit itself at 1 / over, so a blocker is hit before that.
            if (i != hit.which && shade.strikes(mesh, i) && shade.far * hit.over() < shade.over) {
                return i;
            }
        }
        return NONE;
    }

    private int colour(int x, int y) {
        look(x, y, view);
        if (!view.isThere()) {
            return back;
        }
        int brightness = lamps.ambient();
        for (int lamp = 0; lamp < MOST_LIGHTS; lamp++) {
            if (lamps.strength(lamp) > 0) {
                brightness += lamps.share(lamp, levelOf(view, lamp));
            }
        }
        return Math.min(BRIGHTEST, mesh.tone(view.which) * brightness / 255);
    }

    private void unmarkAll() {
        for (int i = 0; i < MOST_TRIANGLES; i++) {
            marked[i] = false;
        }
    }

    /** The k-th marked triangle; how many there are, if k is -1. */
    private int pickMarked(int k) {
        int many = 0;
        for (int i = 0; i < mesh.many(); i++) {
            if (marked[i]) {
                if (many == k) {
                    return i;
                }
                many++;
            }
        }
        return k == -1 ? many : BAD;
    }

    /** The points that were collected. */
    private static final class Points {
        private static final int FURTHEST = 255;

        private final int[] coordinates = new int[9];
        private int many = 0;

        int many() {
            return many;
        }

        void clear() {
            many = 0;
        }

        boolean collect(int x, int y, int z) {
            if (many >= 3 || !isCoordinate(x) || !isCoordinate(y) || !isCoordinate(z)) {
                return false;
            }
            coordinates[3 * many] = x;
            coordinates[3 * many + 1] = y;
            coordinates[3 * many + 2] = z;
            many++;
            return true;
        }

        int at(int point, int axis) {
            return coordinates[3 * point + axis];
        }

        private static boolean isCoordinate(int v) {
            return v >= -FURTHEST && v <= FURTHEST;
        }
    }

    /** The triangles: corners, normals and tones in rows, a triangle after the other. */
    private static final class Mesh {
        private final int[] corners = new int[9 * MOST_TRIANGLES];
        private final int[] normals = new int[3 * MOST_TRIANGLES];
        private final int[] tones = new int[MOST_TRIANGLES];
        // A triangle is tried here before it is stored, so that a flat one changes nothing.
        private final int[] trial = new int[9];
        private final int[] trialNormal = new int[3];
        private int many = 0;

        int many() {
            return many;
        }

        boolean has(int i) {
            return i >= 0 && i < many;
        }

        int append(Points points, int tone) {
            if (many >= MOST_TRIANGLES) {
                return BAD;
            }
            for (int corner = 0; corner < 3; corner++) {
                tryCorner(corner, points, corner);
            }
            if (trialIsFlat()) {
                return NONE;
            }
            storeTrial(many);
            tones[many] = tone;
            many++;
            return many - 1;
        }

        /** Puts a corner to the first point; false if the triangle would be flat. */
        boolean bend(int i, int corner, Points points) {
            System.arraycopy(corners, 9 * i, trial, 0, 9);
            tryCorner(corner, points, 0);
            if (trialIsFlat()) {
                return false;
            }
            storeTrial(i);
            return true;
        }

        private void tryCorner(int corner, Points points, int point) {
            for (int axis = 0; axis < 3; axis++) {
                trial[3 * corner + axis] = points.at(point, axis);
            }
        }

        private boolean trialIsFlat() {
            int bx = trial[3] - trial[0];
            int by = trial[4] - trial[1];
            int bz = trial[5] - trial[2];
            int cx = trial[6] - trial[0];
            int cy = trial[7] - trial[1];
            int cz = trial[8] - trial[2];
            trialNormal[0] = by * cz - bz * cy;
            trialNormal[1] = bz * cx - bx * cz;
            trialNormal[2] = bx * cy - by * cx;
            return trialNormal[0] == 0 && trialNormal[1] == 0 && trialNormal[2] == 0;
        }

        private void storeTrial(int i) {
            System.arraycopy(trial, 0, corners, 9 * i, 9);
            System.arraycopy(trialNormal, 0, normals, 3 * i, 3);
        }

        int at(int i, int corner, int axis) {
            return corners[9 * i + 3 * corner + axis];
        }

        int tone(int i) {
            return tones[i];
        }

        int changeTone(int i, int v) {
            int was = tones[i];
            tones[i] = v;
            return was;
        }

        int normal(int i, int axis) {
            return normals[3 * i + axis];
        }

        long alongNormal(int i, long x, long y, long z) {
            return x * normals[3 * i] + y * normals[3 * i + 1] + z * normals[3 * i + 2];
        }

        /** How far a vector goes along the edge from corner A to another corner, times its length. */
        long alongEdge(int i, int corner, long x, long y, long z) {
            int a = 9 * i;
            int b = a + 3 * corner;
            return x * (corners[b] - corners[a])
                + y * (corners[b + 1] - corners[a + 1])
                + z * (corners[b + 2] - corners[a + 2]);
        }

        /** Above 0 for a place on the side to which the normal points, 0 on the plane. */
        long side(int i, long x, long y, long z) {
            return alongNormal(i, x - at(i, 0, 0), y - at(i, 0, 1), z - at(i, 0, 2));
        }

        long normalSquare(int i) {
            return alongNormal(i, normal(i, 0), normal(i, 1), normal(i, 2));
        }

        int middle(int i, int axis) {
            return at(i, 0, axis) + at(i, 1, axis) + at(i, 2, axis);
        }

        int least(int i, int axis) {
            return Math.min(at(i, 0, axis), Math.min(at(i, 1, axis), at(i, 2, axis)));
        }

        int greatest(int i, int axis) {
            return Math.max(at(i, 0, axis), Math.max(at(i, 1, axis), at(i, 2, axis)));
        }

        int commonCorners(int i, int j) {
            int common = 0;
            for (int c = 0; c < 3; c++) {
                for (int d = 0; d < 3; d++) {
                    if (isSamePlace(i, c, j, d)) {
                        common++;
                    }
                }
            }
            return common;
        }

        private boolean isSamePlace(int i, int c, int j, int d) {
            return at(i, c, 0) == at(j, d, 0) && at(i, c, 1) == at(j, d, 1) && at(i, c, 2) == at(j, d, 2);
        }
    }

    /** The eye, the axes and the picture's size. */
    private static final class Camera {
        private static final int WIDEST = 32;
        private static final int STEEPEST = 1023;

        private final int[] eye = new int[3];
        private final int[] axes = new int[9];
        private final int[] trial = new int[9];
        private int w = 1;
        private int h = 1;

        boolean hasPixel(int x, int y) {
            return x >= 0 && x < w && y >= 0 && y < h;
        }

        void stand(Points points) {
            for (int axis = 0; axis < 3; axis++) {
                eye[axis] = points.at(0, axis);
            }
        }

        boolean turn(int which, int x, int y, int z) {
            System.arraycopy(axes, 0, trial, 0, 9);
            trial[3 * which] = x;
            trial[3 * which + 1] = y;
            trial[3 * which + 2] = z;
            if (!allRaysFit(trial, w, h)) {
                return false;
            }
            System.arraycopy(trial, 0, axes, 0, 9);
            return true;
        }

        boolean frame(int newW, int newH) {
            if (newW < 1 || newW > WIDEST || newH < 1 || newH > WIDEST || !allRaysFit(axes, newW, newH)) {
                return false;
            }
            w = newW;
            h = newH;
            return true;
        }

        private static boolean allRaysFit(int[] rows, int w, int h) {
            for (int axis = 0; axis < 3; axis++) {
                // The pixels at the picture's corners have the outermost numbers.
                long spread = (w - 1) * Math.abs((long) rows[3 + axis]) + (h - 1) * Math.abs((long) rows[6 + axis]);
                if (rows[axis] + spread > STEEPEST || rows[axis] - spread < -STEEPEST) {
                    return false;
                }
            }
            return true;
        }

        void aim(int x, int y, Ray ray) {
            long right = 2 * x - w + 1;
            long up = h - 1 - 2 * y;
            for (int axis = 0; axis < 3; axis++) {
                ray.from[axis] = eye[axis];
                ray.along[axis] = axes[axis] + right * axes[3 + axis] + up * axes[6 + axis];
            }
        }
    }

    /** A ray, and where it struck the triangle that was last tried. */
    private static final class Ray {
        private final long[] from = new long[3];
        private final long[] along = new long[3];
        private long turn = 1;
        // The place is from + far / over times along, and the corners weigh weightA .. weightC / over there.
        private long far = 0;
        private long over = 1;
        private long weightA = 0;
        private long weightB = 0;
        private long weightC = 0;

        boolean strikes(Mesh mesh, int i) {
            return comesToPlane(mesh, i) && isInside(mesh, i);
        }

        private boolean comesToPlane(Mesh mesh, int i) {
            long lean = mesh.alongNormal(i, along[0], along[1], along[2]);
            turn = lean < 0 ? -1 : 1;
            over = turn * lean;
            far = -turn * mesh.side(i, from[0], from[1], from[2]);
            return over > 0 && far > 0;
        }

        private boolean isInside(Mesh mesh, int i) {
            long x = from[0] - mesh.at(i, 0, 0);
            long y = from[1] - mesh.at(i, 0, 1);
            long z = from[2] - mesh.at(i, 0, 2);
            long crossX = turn * (along[1] * z - along[2] * y);
            long crossY = turn * (along[2] * x - along[0] * z);
            long crossZ = turn * (along[0] * y - along[1] * x);
            weightB = mesh.alongEdge(i, 2, crossX, crossY, crossZ);
            weightC = -mesh.alongEdge(i, 1, crossX, crossY, crossZ);
            weightA = over - weightB - weightC;
            return weightA >= 0 && weightB >= 0 && weightC >= 0;
        }
    }

    /** What a ray hits first: all of it is kept here, so that it stays whatever changes. */
    private static final class Hit {
        private final long[] time = new long[2];
        private final long[] place = new long[4];
        private final long[] weights = new long[4];
        private int which = NONE;

        boolean isThere() {
            return which >= 0;
        }

        void clear() {
            which = NONE;
        }

        long over() {
            return time[1];
        }

        boolean isLaterThan(Ray ray) {
            return !isThere() || ray.far * time[1] < time[0] * ray.over;
        }

        void take(Ray ray, int triangle) {
            which = triangle;
            time[0] = ray.far;
            time[1] = ray.over;
            for (int axis = 0; axis < 3; axis++) {
                place[axis] = ray.from[axis] * ray.over + ray.along[axis] * ray.far;
            }
            place[3] = ray.over;
            weights[0] = ray.weightA;
            weights[1] = ray.weightB;
            weights[2] = ray.weightC;
            weights[3] = ray.over;
        }

        long tell(int what) {
            if (what == 0) {
                return which;
            }
            if (what >= 1 && what <= 2) {
                return inLeastTerms(time, what - 1);
            }
            if (what >= 3 && what <= 6) {
                return inLeastTerms(place, what - 3);
            }
            if (what >= 7 && what <= 10) {
                return inLeastTerms(weights, what - 7);
            }
            return UNTOLD;
        }

        private static long inLeastTerms(long[] row, int k) {
            long common = 0;
            for (int i = 0; i < row.length; i++) {
                common = commonDivisor(common, Math.abs(row[i]));
            }
            return common == 0 ? row[k] : row[k] / common;
        }

        private static long commonDivisor(long a, long b) {
            long greater = a;
            long lesser = b;
            // Each two rounds halve the numbers at least, so that 128 are enough for any long.
            for (int round = 0; round < 128 && lesser != 0; round++) {
                long rest = greater % lesser;
                greater = lesser;
                lesser = rest;
            }
            return greater;
        }
    }

    /** The lights, the light from everywhere, and the table of levels. */
    private static final class Lamps {
        private final int[] places = new int[3 * MOST_LIGHTS];
        private final int[] strengths = new int[MOST_LIGHTS];
        private final int[] values = new int[LEVELS];
        private int ambient = 0;

        Lamps() {
            for (int level = 0; level < LEVELS; level++) {
                values[level] = 17 * level;
            }
        }

        static boolean has(int which) {
            return which >= 0 && which < MOST_LIGHTS;
        }

        void hang(int which, int strength, Points points) {
            for (int axis = 0; axis < 3; axis++) {
                places[3 * which + axis] = points.at(0, axis);
            }
            strengths[which] = strength;
        }

        int at(int which, int axis) {
            return places[3 * which + axis];
        }

        int strength(int which) {
            return strengths[which];
        }

        int ambient() {
            return ambient;
        }

        int changeAmbient(int v) {
            int was = ambient;
            ambient = v;
            return was;
        }

        int changeValue(int level, int v) {
            int was = values[level];
            values[level] = v;
            return was;
        }

        int burning() {
            int many = 0;
            for (int which = 0; which < MOST_LIGHTS; which++) {
                if (strengths[which] > 0) {
                    many++;
                }
            }
            return many;
        }

        /** What a light adds at a level; nothing, if it has no level there. */
        int share(int which, int level) {
            return level >= 0 && level < LEVELS ? strengths[which] * values[level] / 255 : 0;
        }

        /**
         * A ray from the light to the hit, its direction times the hit's divisor:
         * the light's place is whole, so that the numbers stay within a long.
         */
        void aim(int which, Hit hit, Ray ray) {
            for (int axis = 0; axis < 3; axis++) {
                long start = at(which, axis);
                ray.from[axis] = start;
                ray.along[axis] = hit.place[axis] - start * hit.over();
            }
        }
    }

    /** The tree of boxes. */
    private static final class Tree {
        private static final int DEEPEST = 16;

        private final int[] order = new int[MOST_TRIANGLES];
        private final int[] first = new int[MOST_NODES];
        private final int[] many = new int[MOST_NODES];
        private final int[] lower = new int[MOST_NODES];
        private final int[] upper = new int[MOST_NODES];
        private final int[] above = new int[MOST_NODES];
        private final int[] bounds = new int[6 * MOST_NODES];
        private final boolean[] met = new boolean[MOST_NODES];
        private int nodes = 0;
        private int deepest = 0;

        boolean stands() {
            return nodes > 0;
        }

        int nodes() {
            return nodes;
        }

        int deepest() {
            return deepest;
        }

        void clear() {
            nodes = 0;
            deepest = 0;
        }

        boolean hasNode(int i) {
            return i >= 0 && i < nodes;
        }

        boolean hasPlace(int k) {
            return stands() && k >= 0 && k < many[0];
        }

        int triangleAt(int k) {
            return order[k];
        }

        void grow(Mesh mesh, int least) {
            clear();
            for (int i = 0; i < mesh.many(); i++) {
                order[i] = i;
            }
            if (mesh.many() > 0) {
                branch(mesh, least, 0, mesh.many(), NONE, 0);
            }
        }

        private int branch(Mesh mesh, int least, int start, int length, int parent, int depth) {
            if (depth > DEEPEST || nodes >= MOST_NODES) {
                return NONE;
            }
            int me = nodes;
            nodes++;
            deepest = Math.max(deepest, depth);
            first[me] = start;
            many[me] = length;
            above[me] = parent;
            lower[me] = NONE;
            upper[me] = NONE;
            fitBox(mesh, me);
            if (length > least) {
                int half = length / 2;
                sortAlong(mesh, start, length, widestAxis(mesh, start, length));
                lower[me] = branch(mesh, least, start, half, me, depth + 1);
                upper[me] = branch(mesh, least, start + half, length - half, me, depth + 1);
            }
            return me;
        }

        private int widestAxis(Mesh mesh, int start, int length) {
            int widest = 0;
            int width = -1;
            for (int axis = 0; axis < 3; axis++) {
                int spread = spreadAlong(mesh, start, length, axis);
                if (spread > width) {
                    width = spread;
                    widest = axis;
                }
            }
            return widest;
        }

        private int spreadAlong(Mesh mesh, int start, int length, int axis) {
            int low = mesh.middle(order[start], axis);
            int high = low;
            for (int k = start + 1; k < start + length; k++) {
                int middle = mesh.middle(order[k], axis);
                low = Math.min(low, middle);
                high = Math.max(high, middle);
            }
            return high - low;
        }

        private void sortAlong(Mesh mesh, int start, int length, int axis) {
            for (int k = start + 1; k < start + length; k++) {
                int moving = order[k];
                int hole = k;
                while (hole > start && comesBefore(mesh, moving, order[hole - 1], axis)) {
                    order[hole] = order[hole - 1];
                    hole--;
                }
                order[hole] = moving;
            }
        }

        private static boolean comesBefore(Mesh mesh, int i, int j, int axis) {
            int difference = mesh.middle(i, axis) - mesh.middle(j, axis);
            return difference < 0 || difference == 0 && i < j;
        }

        /** How many boxes changed. */
        int fitBoxes(Mesh mesh) {
            int changed = 0;
            for (int i = 0; i < nodes; i++) {
                if (fitBox(mesh, i)) {
                    changed++;
                }
            }
            return changed;
        }

        private boolean fitBox(Mesh mesh, int i) {
            boolean changed = false;
            for (int axis = 0; axis < 3; axis++) {
                int low = mesh.least(order[first[i]], axis);
                int high = mesh.greatest(order[first[i]], axis);
                for (int k = first[i] + 1; k < first[i] + many[i]; k++) {
                    low = Math.min(low, mesh.least(order[k], axis));
                    high = Math.max(high, mesh.greatest(order[k], axis));
                }
                changed = changed || bounds[6 * i + axis] != low || bounds[6 * i + 3 + axis] != high;
                bounds[6 * i + axis] = low;
                bounds[6 * i + 3 + axis] = high;
            }
            return changed;
        }

        int describe(int i, int what) {
            switch (what) {
                case 0:
                    return first[i];
                case 1:
                    return many[i];
                case 2:
                    return lower[i];
                case 3:
                    return upper[i];
                case 4:
                    return above[i];
                default:
                    return what >= 5 && what <= 10 ? bounds[6 * i + what - 5] : BAD;
            }
        }

        /** Marks the nodes that a ray meets. */
        void follow(Ray ray) {
            boolean moves = ray.along[0] != 0 || ray.along[1] != 0 || ray.along[2] != 0;
            for (int i = 0; i < nodes; i++) {
                boolean parentMet = above[i] < 0 ? moves : met[above[i]];
                met[i] = parentMet && reachesBox(ray, i);
            }
        }

        private boolean reachesBox(Ray ray, int i) {
            // The ray is in the box from inTop / inUnder on to outTop / outUnder, at first from 0 to without end.
            long inTop = 0;
            long inUnder = 1;
            long outTop = 1;
            long outUnder = 0;
            for (int axis = 0; axis < 3; axis++) {
                long low = bounds[6 * i + axis] - ray.from[axis];
                long high = bounds[6 * i + 3 + axis] - ray.from[axis];
                long step = ray.along[axis];
                if (step == 0) {
                    if (low > 0 || high < 0) {
                        return false;
                    }
                    continue;
                }
                long enter = step > 0 ? low : -high;
                long leave = step > 0 ? high : -low;
                long under = Math.abs(step);
                if (enter * inUnder > inTop * under) {
                    inTop = enter;
                    inUnder = under;
                }
                if (leave * outUnder < outTop * under) {
                    outTop = leave;
                    outUnder = under;
                }
            }
            return inTop * outUnder <= outTop * inUnder;
        }

        int metNodes() {
            int sum = 0;
            for (int i = 0; i < nodes; i++) {
                if (met[i]) {
                    sum++;
                }
            }
            return sum;
        }

        int metTriangles() {
            int sum = 0;
            for (int i = 0; i < nodes; i++) {
                if (met[i] && lower[i] < 0) {
                    sum += many[i];
                }
            }
            return sum;
        }
    }

    /** The triangles that a ray hit, the nearest first. */
    private static final class Crossings {
        private final int[] triangles = new int[MOST_TRIANGLES];
        private final long[] far = new long[MOST_TRIANGLES];
        private final long[] over = new long[MOST_TRIANGLES];
        private int many = 0;

        int many() {
            return many;
        }

        void clear() {
            many = 0;
        }

        boolean has(int k) {
            return k >= 0 && k < many;
        }

        int triangleAt(int k) {
            return triangles[k];
        }

        /** To be called by rising numbers: of equally far ones the earlier stays before. */
        void insert(int triangle, long newFar, long newOver) {
            if (many >= MOST_TRIANGLES) {
                return;
            }
            int hole = many;
            while (hole > 0 && far[hole - 1] * newOver > newFar * over[hole - 1]) {
                triangles[hole] = triangles[hole - 1];
                far[hole] = far[hole - 1];
                over[hole] = over[hole - 1];
                hole--;
            }
            triangles[hole] = triangle;
            far[hole] = newFar;
            over[hole] = newOver;
            many++;
        }
    }

    /** How steeply light falls on a triangle. */
    private static final class Slope {
        private final Wide factor = new Wide();
        private final Wide square = new Wide();
        private final Wide waySquare = new Wide();
        private final Wide riseSquare = new Wide();
        private final Wide unit = new Wide();
        private final Wide bound = new Wide();

        /** The greatest k with (15 rise) squared not below k k times both squares. */
        int level(long rise, long normalSquare, long[] way) {
            factor.put(15 * rise);
            riseSquare.putProduct(factor, factor);
            waySquare.put(0);
            for (int axis = 0; axis < way.length; axis++) {
                factor.put(Math.abs(way[axis]));
                square.putProduct(factor, factor);
                waySquare.add(square);
            }
            factor.put(normalSquare);
            unit.putProduct(waySquare, factor);
            for (int k = LEVELS - 1; k > 0; k--) {
                factor.put(k * k);
                bound.putProduct(unit, factor);
                if (riseSquare.isAtLeast(bound)) {
                    return k;
                }
            }
            return 0;
        }
    }

    /** A number from 0 on, below 2 to the 150th: the squares of a level have up to 125 bits. */
    private static final class Wide {
        private static final int LIMBS = 5;
        private static final int BITS = 30;
        private static final long MASK = (1L << BITS) - 1;

        // The least limb first; 30 bits, so that five products and what is carried fit into a long.
        private final long[] limbs = new long[LIMBS];

        void put(long v) {
            long rest = v;
            for (int i = 0; i < LIMBS; i++) {
                limbs[i] = rest & MASK;
                rest >>= BITS;
            }
        }

        void add(Wide other) {
            long carried = 0;
            for (int i = 0; i < LIMBS; i++) {
                carried += limbs[i] + other.limbs[i];
                limbs[i] = carried & MASK;
                carried >>= BITS;
            }
        }

        /** Neither factor may be this number. */
        void putProduct(Wide a, Wide b) {
            long carried = 0;
            for (int i = 0; i < LIMBS; i++) {
                for (int j = 0; j <= i; j++) {
                    carried += a.limbs[j] * b.limbs[i - j];
                }
                limbs[i] = carried & MASK;
                carried >>= BITS;
            }
        }

        boolean isAtLeast(Wide other) {
            for (int i = LIMBS - 1; i >= 0; i--) {
                if (limbs[i] != other.limbs[i]) {
                    return limbs[i] > other.limbs[i];
                }
            }
            return true;
        }
    }

    /** A box between two points; all twice as large, so that its middle is whole. */
    private static final class Box {
        private final long[] middle = new long[3];
        private final long[] reach = new long[3];

        void span(Points points) {
            for (int axis = 0; axis < 3; axis++) {
                middle[axis] = points.at(0, axis) + points.at(1, axis);
                reach[axis] = Math.abs(points.at(0, axis) - points.at(1, axis));
            }
        }

        /**
         * Two convex bodies have no place in common just if a direction parts them;
         * for a box and a triangle the box's axes, the normal, and what stands
         * upright on an edge of each are enough, even if the box is flat.
         */
        boolean touches(Mesh mesh, int i) {
            boolean apart = isPartedAlong(mesh, i, 1, 0, 0)
                || isPartedAlong(mesh, i, 0, 1, 0)
                || isPartedAlong(mesh, i, 0, 0, 1)
                || isPartedAlong(mesh, i, mesh.normal(i, 0), mesh.normal(i, 1), mesh.normal(i, 2));
            for (int corner = 0; corner < 3 && !apart; corner++) {
                int next = (corner + 1) % 3;
                long x = mesh.at(i, next, 0) - mesh.at(i, corner, 0);
                long y = mesh.at(i, next, 1) - mesh.at(i, corner, 1);
                long z = mesh.at(i, next, 2) - mesh.at(i, corner, 2);
                apart = isPartedAlong(mesh, i, 0, z, -y)
                    || isPartedAlong(mesh, i, -z, 0, x)
                    || isPartedAlong(mesh, i, y, -x, 0);
            }
            return !apart;
        }

        private boolean isPartedAlong(Mesh mesh, int i, long x, long y, long z) {
            long width = Math.abs(x) * reach[0] + Math.abs(y) * reach[1] + Math.abs(z) * reach[2];
            boolean allAbove = true;
            boolean allBelow = true;
            for (int corner = 0; corner < 3; corner++) {
                long along = x * (2 * mesh.at(i, corner, 0) - middle[0])
                    + y * (2 * mesh.at(i, corner, 1) - middle[1])
                    + z * (2 * mesh.at(i, corner, 2) - middle[2]);
                allAbove = allAbove && along > width;
                allBelow = allBelow && along < -width;
            }
            return allAbove || allBelow;
        }
    }
}
