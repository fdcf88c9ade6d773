/** Promise 4: move. */
public final class Promise04Test {
    private static final Check CHECK = new Check("Promise04Test");
    private static final int BAD = RayRoom.BAD;
    private static final int NONE = RayRoom.NONE;

    public static void main(String[] args) {
        eachCorner();
        theTreeStays();
        noSuchTriangle();
        noSuchCorner();
        notJustOnePoint();
        onOneLine();
        nearlyOnOneLine();
        CHECK.end();
    }

    private static void due(String call, long got, long want) {
        CHECK.due(call, got, want);
    }

    private static Room withOne() {
        return Room.filled().collect(0, 8, 0);
    }

    private static void eachCorner() {
        CHECK.sentence("A corner (0 .. 2) of a triangle becomes the one point, which is gone then: 0");
        int[] to = {-20, -30, -5, 40, -30, -5, 0, 50, -5};
        for (int corner = 0; corner < 3; corner++) {
            Room r = new Room();
            r.put(1, 100, 0, 9, 101, 0, 9, 100, 1, 9);
            r.put(1, -10, -10, -5, 10, -10, -5, 0, 10, -5);
            r.put(1, 100, 0, 9, 101, 0, 9, 100, 1, 9);
            due("move(1, " + corner + ")",
                r.moveTo(1, corner, to[3 * corner], to[3 * corner + 1], to[3 * corner + 2]), 0);
            due("points that are left", r.count(1), 0);
            due("hit at the corner", r.hitAlong(to[3 * corner], to[3 * corner + 1], to[3 * corner + 2]), 1);
            due("its weight", r.told(7 + corner), 1);
            due("over", r.told(10), 1);
            due("the corners of the others stay", r.shared(0, 2), 3);
        }
        Room r = Room.filled();
        due("to where it is", r.moveTo(0, 0, -9, -9, 0), 0);
        due("the last triangle, the last corner", r.moveTo(2, 2, 0, 2, 4), 0);
        due("two corners are left in common", r.shared(1, 2), 2);
        due("triangles", r.count(0), 3);
    }

    private static void theTreeStays() {
        CHECK.sentence("the tree stays as it is, its boxes too");
        Room r = Room.filled();
        long[] order = r.allOrder();
        long[][] nodes = {r.allOf(0), r.allOf(1), r.allOf(2), r.allOf(3), r.allOf(4)};
        due("move", r.moveTo(0, 2, 100, 100, 100), 0);
        due("nodes", r.count(2), 5);
        CHECK.dueAll("order", r.allOrder(), order);
        for (int i = 0; i < 5; i++) {
            CHECK.dueAll("node " + i, r.allOf(i), nodes[i]);
        }
        due("told(0) stays", r.told(0), 1);
        due("the tone stays", r.set(3, 0, 1), 200);
    }

    private static void noSuchTriangle() {
        CHECK.sentence("BAD: no such one (triangle; the point stays)");
        for (int i : Check.outside(0, 2)) {
            CHECK.refused("move(" + i + ", 0)", BAD, Promise04Test::withOne, r -> r.move(i, 0));
        }
        CHECK.refused("move(0, 0) without triangles", BAD, () -> new Room().collect(1, 2, 3), r -> r.move(0, 0));
        due("move(0, 2)", withOne().move(0, 2), 0);
        due("move(2, 2)", withOne().move(2, 2), 0);
    }

    private static void noSuchCorner() {
        CHECK.sentence("BAD: no such one (corner; the point stays)");
        for (int corner : Check.outside(0, 2)) {
            CHECK.refused("move(0, " + corner + ")", BAD, Promise04Test::withOne, r -> r.move(0, corner));
            CHECK.refused("move(2, " + corner + ")", BAD, Promise04Test::withOne, r -> r.move(2, corner));
        }
    }

    private static void notJustOnePoint() {
        CHECK.sentence("BAD: not just one point (it stays)");
        CHECK.refused("no point", BAD, Room::filled, r -> r.move(0, 0));
        CHECK.refused("two points", BAD, () -> Room.filled().collect(0, 8, 0, 1, 1, 1), r -> r.move(0, 0));
        CHECK.refused("three points", BAD, () -> Room.filled().collect(0, 8, 0, 1, 1, 1, 2, 5, 9), r -> r.move(0, 0));
        CHECK.refused("two points, on one line", BAD, () -> Room.filled().collect(0, -9, 0, 1, 1, 1), r -> r.move(0, 2));
    }

    private static void onOneLine() {
        CHECK.sentence("NONE: its corners would lie on one line (nothing changes but the point)");
        int[][] lines = {{0, 9, -9, 0}, {0, 0, 9, 0}, {1, -9, -9, 0}, {1, 0, 9, 0}, {2, -9, -9, 0}, {2, 9, -9, 0},
            {2, 0, -9, 0}, {2, 100, -9, 0}, {2, -255, -9, 0}, {0, 18, -27, 0}};
        for (int[] m : lines) {
            CHECK.changesLike("move(0, " + m[0] + ")", NONE, () -> Room.filled().collect(m[1], m[2], m[3]),
                r -> r.move(0, m[0]), Room::drop);
        }
    }

    private static void nearlyOnOneLine() {
        CHECK.sentence("NONE: its corners would lie on one line (but these do not)");
        int[][] near = {{0, 9, -8, 0}, {0, 0, 9, 1}, {1, -9, -9, 1}, {1, 1, 9, 0}, {2, -9, -8, 0}, {2, 0, -9, -1},
            {2, 255, -10, 0}};
        for (int[] m : near) {
            due("move(0, " + m[0] + ")", Room.filled().moveTo(0, m[0], m[1], m[2], m[3]), 0);
        }
    }
}
