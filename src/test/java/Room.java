import java.util.ArrayList;
import java.util.List;
import java.util.function.IntToLongFunction;

/**
 * A RayRoom with what tests need often. It counts the calls, because answers
 * after the 512th are free: no test may lean on them without saying so.
 */
final class Room {
    static final long UNTOLD = -9_000_000_000_000_000_000L;
    private static final int MOST_CALLS = 512;

    private final RayRoom room = new RayRoom();
    private int calls = 0;
    private boolean free = false;

    private RayRoom asked() {
        calls++;
        if (calls > MOST_CALLS && !free) {
            throw new IllegalStateException("this test asks for answers that are free");
        }
        return room;
    }

    /** For limits that no run of 512 calls comes to: the class keeps them, though the document leaves it free. */
    Room beyondAllCalls() {
        free = true;
        return this;
    }

    int point(int x, int y, int z) {
        return asked().point(x, y, z);
    }

    int triangle(int tone) {
        return asked().triangle(tone);
    }

    int move(int triangle, int corner) {
        return asked().move(triangle, corner);
    }

    int drop() {
        return asked().drop();
    }

    int eye() {
        return asked().eye();
    }

    int axis(int which, int x, int y, int z) {
        return asked().axis(which, x, y, z);
    }

    int size(int w, int h) {
        return asked().size(w, h);
    }

    int light(int which, int strength) {
        return asked().light(which, strength);
    }

    int set(int what, int i, int v) {
        return asked().set(what, i, v);
    }

    int build(int least) {
        return asked().build(least);
    }

    int refit() {
        return asked().refit();
    }

    int node(int i, int what) {
        return asked().node(i, what);
    }

    int order(int k) {
        return asked().order(k);
    }

    int hit(int x, int y) {
        return asked().hit(x, y);
    }

    long told(int what) {
        return asked().told(what);
    }

    int cross(int x, int y) {
        return asked().cross(x, y);
    }

    int crossing(int k) {
        return asked().crossing(k);
    }

    int meets(int x, int y, int what) {
        return asked().meets(x, y, what);
    }

    int lit(int x, int y, int which) {
        return asked().lit(x, y, which);
    }

    int shadow(int x, int y, int which) {
        return asked().shadow(x, y, which);
    }

    int pixel(int x, int y) {
        return asked().pixel(x, y);
    }

    int picture(int x, int y, int w, int h) {
        return asked().picture(x, y, w, h);
    }

    int seen(int k) {
        return asked().seen(k);
    }

    int facing(int triangle) {
        return asked().facing(triangle);
    }

    int touched(int k) {
        return asked().touched(k);
    }

    int shared(int i, int j) {
        return asked().shared(i, j);
    }

    int count(int what) {
        return asked().count(what);
    }

    /** Three numbers for each point. */
    Room collect(int... c) {
        for (int k = 0; k < c.length; k += 3) {
            point(c[k], c[k + 1], c[k + 2]);
        }
        return this;
    }

    /** Nine coordinates: the corners A, B, C. */
    int put(int tone, int... corners) {
        return collect(corners).triangle(tone);
    }

    int eyeAt(int x, int y, int z) {
        return collect(x, y, z).eye();
    }

    int lightAt(int which, int strength, int x, int y, int z) {
        return collect(x, y, z).light(which, strength);
    }

    int moveTo(int triangle, int corner, int x, int y, int z) {
        return collect(x, y, z).move(triangle, corner);
    }

    /** What a ray along a direction hits, in a picture of one pixel. */
    int hitAlong(int x, int y, int z) {
        axis(0, x, y, z);
        return hit(0, 0);
    }

    long[] allTold() {
        return listed(11, this::told);
    }

    long[] allOf(int node) {
        return listed(11, what -> node(node, what));
    }

    long[] allOrder() {
        return listed(count(2) == 0 ? 0 : node(0, 1), this::order);
    }

    long[] allCrossings() {
        return listed(count(7), this::crossing);
    }

    long[] allTouched() {
        return listed(touched(-1), this::touched);
    }

    long[] allSeen() {
        return listed(seen(-1), this::seen);
    }

    private static long[] listed(int many, IntToLongFunction ask) {
        long[] all = new long[Math.max(many, 0)];
        for (int k = 0; k < all.length; k++) {
            all[k] = ask.applyAsLong(k);
        }
        return all;
    }

    /**
     * A room with something of every kind: a floor and two triangles at one
     * place above it, seen from above in a picture of 3 by 2; lights, a tree,
     * something at hand, crossings; no points. Pixels 0 0 and 2 0 hit nothing.
     */
    static Room filled() {
        Room r = new Room();
        r.put(200, -9, -9, 0, 9, -9, 0, 0, 9, 0);
        r.put(120, -2, -2, 3, 2, -2, 3, 0, 2, 3);
        r.put(90, -2, -2, 3, 2, -2, 3, 0, 2, 3);
        r.size(3, 2);
        r.axis(0, 0, 0, -4);
        r.axis(1, 1, 0, 0);
        r.axis(2, 0, 1, 0);
        r.eyeAt(0, 0, 8);
        r.lightAt(0, 255, 5, 5, 9);
        r.lightAt(1, 100, 1, 1, 1);
        r.set(1, 0, 10);
        r.set(2, 0, 77);
        r.build(1);
        r.hit(1, 1);
        r.cross(1, 1);
        return r;
    }

    /** A floor of 255, whose place 0 0 0 is looked at from 0 0 10 in a picture of one pixel. */
    static Room floor() {
        Room r = new Room();
        r.put(255, -100, -100, 0, 100, -100, 0, 0, 100, 0);
        r.eyeAt(0, 0, 10);
        r.axis(0, 0, 0, -1);
        return r;
    }

    /** Triangles at heights z, all looked at from 0 0 10 downwards in a picture of one pixel. */
    static Room stack(int... heights) {
        Room r = new Room();
        for (int z : heights) {
            r.put(1, -10, -10, z, 10, -10, z, 0, 10, z);
        }
        r.eyeAt(0, 0, 10);
        r.axis(0, 0, 0, -1);
        return r;
    }

    /** Small triangles beside each other at the given x. */
    static Room row(int... xs) {
        Room r = new Room();
        for (int x : xs) {
            r.put(1, x, 0, 0, x + 1, 0, 0, x, 1, 0);
        }
        return r;
    }

    /** So many triangles below each other, from z = -1 on: 127 leave four calls, 128 none. */
    static Room pile(int many) {
        Room r = new Room();
        for (int k = 1; k <= many; k++) {
            r.put(255, -9, -9, -k, 9, -9, -k, 0, 9, -k);
        }
        return r;
    }

    /**
     * All that can be asked: rooms that answer alike are alike. What can only
     * be seen by changing it comes last, so that nothing may be asked after it.
     */
    List<Long> everything() {
        List<Long> all = new ArrayList<>();
        add(all, listed(8, this::count));
        add(all, allTold());
        add(all, allCrossings());
        addTree(all);
        for (int i = 0; i < count(0); i++) {
            all.add((long) facing(i));
            for (int j = 0; j < i; j++) {
                all.add((long) shared(i, j));
            }
        }
        add(all, allTouched());
        add(all, allSeen());
        for (int y = 0; y < count(4); y++) {
            for (int x = 0; x < count(3); x++) {
                addPixel(all, x, y);
            }
        }
        addValues(all);
        addPoints(all);
        return all;
    }

    private static void add(List<Long> all, long[] more) {
        for (long v : more) {
            all.add(v);
        }
    }

    private void addTree(List<Long> all) {
        add(all, allOrder());
        int nodes = count(2);
        for (int i = 0; i < nodes; i++) {
            add(all, allOf(i));
        }
    }

    private void addPixel(List<Long> all, int x, int y) {
        all.add((long) meets(x, y, 0));
        all.add((long) meets(x, y, 1));
        all.add((long) pixel(x, y));
        for (int which = 0; which < 4; which++) {
            all.add((long) lit(x, y, which));
            all.add((long) shadow(x, y, which));
        }
        // The places that the rays come to tell where the eye is and what the axes are.
        if (hit(x, y) >= 0) {
            add(all, allTold());
        }
    }

    private void addValues(List<Long> all) {
        add(all, listed(16, level -> set(0, level, 0)));
        all.add((long) set(1, 0, 0));
        all.add((long) set(2, 0, 0));
        add(all, listed(count(0), i -> set(3, i, 0)));
    }

    /** The points become a triangle, with others that lie in the outermost corner: its box tells of them. */
    private void addPoints(List<Long> all) {
        if (count(1) == 0) {
            return;
        }
        collect(255, 255, 254, 255, 254, 255);
        all.add((long) triangle(0));
        all.add((long) build(1));
        addTree(all);
    }
}
