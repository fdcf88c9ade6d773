import java.util.ArrayList;
import java.util.List;

/** A room with calls that tests need often, and with all that it can be asked without changing it. */
final class Scene {
    static final long UNTOLD = -9_000_000_000_000_000_000L;

    final RayRoom room = new RayRoom();

    /** Nine coordinates: the corners A, B, C. */
    int triangle(int tone, int... c) {
        room.drop();
        for (int k = 0; k < 9; k += 3) {
            room.point(c[k], c[k + 1], c[k + 2]);
        }
        return room.triangle(tone);
    }

    int eye(int x, int y, int z) {
        room.drop();
        room.point(x, y, z);
        return room.eye();
    }

    int light(int which, int strength, int x, int y, int z) {
        room.drop();
        room.point(x, y, z);
        return room.light(which, strength);
    }

    int move(int triangle, int corner, int x, int y, int z) {
        room.drop();
        room.point(x, y, z);
        return room.move(triangle, corner);
    }

    void points(int... c) {
        room.drop();
        for (int k = 0; k < c.length; k += 3) {
            room.point(c[k], c[k + 1], c[k + 2]);
        }
    }

    /** What a ray along a direction hits, in a picture of one pixel. */
    int hitAlong(int x, int y, int z) {
        room.size(1, 1);
        room.axis(0, x, y, z);
        return room.hit(0, 0);
    }

    long[] allTold() {
        long[] told = new long[11];
        for (int k = 0; k < 11; k++) {
            told[k] = room.told(k);
        }
        return told;
    }

    long[] allOrder() {
        return listed(room.count(2) == 0 ? 0 : room.node(0, 1), k -> room.order(k));
    }

    long[] allCrossings() {
        return listed(room.count(7), k -> room.crossing(k));
    }

    long[] allTouched() {
        return listed(room.touched(-1), k -> room.touched(k));
    }

    long[] allSeen() {
        return listed(room.seen(-1), k -> room.seen(k));
    }

    long[] allOf(int node) {
        return listed(11, what -> room.node(node, what));
    }

    private static long[] listed(int many, java.util.function.IntToLongFunction ask) {
        long[] all = new long[Math.max(many, 0)];
        for (int k = 0; k < all.length; k++) {
            all[k] = ask.applyAsLong(k);
        }
        return all;
    }

    /** Everything that can be asked: two equal ones stand for the same state. */
    List<Long> state() {
        List<Long> all = new ArrayList<>();
        for (int k = 0; k < 8; k++) {
            all.add((long) room.count(k));
        }
        for (long v : allTold()) {
            all.add(v);
        }
        for (long v : allCrossings()) {
            all.add(v);
        }
        for (long v : allOrder()) {
            all.add(v);
        }
        for (int i = 0; i < room.count(2); i++) {
            for (long v : allOf(i)) {
                all.add(v);
            }
        }
        for (int i = 0; i < room.count(0); i++) {
            all.add((long) room.facing(i));
            for (int j = 0; j < room.count(0); j++) {
                all.add((long) room.shared(i, j));
            }
        }
        for (long v : allTouched()) {
            all.add(v);
        }
        for (int y = 0; y < room.count(4); y++) {
            for (int x = 0; x < room.count(3); x++) {
                addPixel(all, x, y);
            }
        }
        for (long v : allSeen()) {
            all.add(v);
        }
        all.add((long) room.picture(0, 0, 32, 32));
        return all;
    }

    private void addPixel(List<Long> all, int x, int y) {
        all.add((long) room.meets(x, y, 0));
        all.add((long) room.meets(x, y, 1));
        all.add((long) room.pixel(x, y));
        for (int which = 0; which < 4; which++) {
            all.add((long) room.lit(x, y, which));
            all.add((long) room.shadow(x, y, which));
        }
    }
}
