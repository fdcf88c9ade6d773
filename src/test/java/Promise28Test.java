/** Promise 28: count. */
public final class Promise28Test {
    private static final Check CHECK = new Check("Promise28Test");
    private static final int BAD = RayRoom.BAD;

    public static void main(String[] args) {
        nothingYet();
        someOfAll();
        triangles();
        points();
        nodesAndDepth();
        withoutATree();
        widthAndHeight();
        lights();
        crossings();
        anotherNumber();
        constants();
        CHECK.end();
    }

    private static void due(String call, long got, long want) {
        CHECK.due(call, got, want);
    }

    private static void nothingYet() {
        CHECK.sentence("count of a new object");
        long[] want = {0, 0, 0, 1, 1, 0, 0, 0};
        Room r = new Room();
        for (int what = 0; what < 8; what++) {
            due("count(" + what + ")", r.count(what), want[what]);
        }
    }

    private static void someOfAll() {
        CHECK.sentence("0 triangles, 1 points, 2 nodes, 3 W, 4 H, 5 lights, 6 the greatest depth, 7 crossings");
        Room r = new Room();
        for (int k = 0; k < 6; k++) {
            r.put(1, -9, -9, k, 9, -9, k, 0, 9, k);
        }
        r.eyeAt(0, 0, 4);
        r.axis(0, 0, 0, -1);
        r.size(7, 5);
        r.lightAt(1, 1, 0, 0, 0);
        r.lightAt(3, 255, 0, 0, 0);
        r.lightAt(0, 0, 0, 0, 0);
        r.build(1);
        r.cross(0, 0);
        r.collect(1, 1, 1, 2, 2, 2);
        long[] want = {6, 2, 11, 7, 5, 2, 3, 4};
        for (int what = 0; what < 8; what++) {
            due("count(" + what + ")", r.count(what), want[what]);
        }
    }

    private static void triangles() {
        CHECK.sentence("0 triangles (as many as may be)");
        due("127", Room.pile(127).count(0), 127);
        due("128", Room.pile(128).beyondAllCalls().count(0), 128);
        Room r = Room.filled();
        r.triangle(1);
        r.put(256, 0, 0, 0, 5, 0, 0, 0, 5, 1);
        r.put(1, 0, 0, 0, 5, 0, 0, 6, 0, 0);
        due("refused ones do not count", r.count(0), 3);
    }

    private static void points() {
        CHECK.sentence("1 points that were collected");
        Room r = new Room();
        for (int k = 0; k <= 4; k++) {
            due("count(1)", r.count(1), Math.min(k, 3));
            r.point(k, k * k, 0);
        }
        r.triangle(1);
        due("after triangle()", r.count(1), 0);
    }

    private static void nodesAndDepth() {
        CHECK.sentence("2 nodes; 6 the greatest depth of a node (0 the first)");
        int[][] rows = {{1, 1, 0}, {2, 3, 1}, {3, 5, 2}, {4, 7, 2}, {5, 9, 3}, {8, 15, 3}, {9, 17, 4}};
        for (int[] v : rows) {
            Room r = Room.pile(v[0]);
            due("build(1) of " + v[0], r.build(1), v[1]);
            due("nodes", r.count(2), v[1]);
            due("depth", r.count(6), v[2]);
        }
        Room r = Room.pile(127);
        r.build(1);
        due("nodes of 127", r.count(2), 253);
        due("depth of 127", r.count(6), 7);
        Room s = Room.pile(127);
        s.build(8);
        due("nodes of 127, least 8", s.count(2), 31);
        due("depth of 127, least 8", s.count(6), 4);
    }

    private static void withoutATree() {
        CHECK.sentence("2 nodes (0 without a tree), 6 depth (0 without a tree)");
        Room r = Room.filled();
        due("nodes", r.count(2), 5);
        due("depth", r.count(6), 2);
        r.put(1, 0, 0, 0, 5, 0, 0, 0, 5, 1);
        due("nodes", r.count(2), 0);
        due("depth", r.count(6), 0);
        r.build(1);
        due("nodes", r.count(2), 7);
        r.build(4);
        due("nodes", r.count(2), 1);
        due("depth", r.count(6), 0);
        Room s = new Room();
        s.build(1);
        due("nodes, built without triangles", s.count(2), 0);
        due("depth, built without triangles", s.count(6), 0);
    }

    private static void widthAndHeight() {
        CHECK.sentence("3 W, 4 H");
        Room r = new Room();
        int[][] sizes = {{1, 32}, {32, 1}, {32, 32}, {2, 3}, {1, 1}};
        for (int[] v : sizes) {
            r.size(v[0], v[1]);
            due("W", r.count(3), v[0]);
            due("H", r.count(4), v[1]);
        }
        r.size(5, 33);
        due("W after a refused one", r.count(3), 1);
    }

    private static void lights() {
        CHECK.sentence("5 lights with a strength above 0");
        Room r = new Room();
        for (int k = 0; k < 4; k++) {
            r.lightAt(k, 0, 1, 1, 1);
            due("strength 0", r.count(5), k);
            r.lightAt(k, 1, 1, 1, 1);
            due("strength 1", r.count(5), k + 1);
            r.lightAt(k, 255, 1, 1, 1);
            due("strength 255", r.count(5), k + 1);
        }
        r.lightAt(0, 0, 1, 1, 1);
        due("one is out", r.count(5), 3);
    }

    private static void crossings() {
        CHECK.sentence("7 crossings");
        Room r = Room.pile(127);
        r.axis(0, 0, 0, -1);
        r.cross(0, 0);
        due("127 of them", r.count(7), 127);
        Room s = Room.filled();
        s.cross(0, 0);
        due("none", s.count(7), 0);
        s.cross(9, 9);
        due("after a refused one", s.count(7), 0);
        s.cross(1, 1);
        s.cross(9, 9);
        due("after a refused one", s.count(7), 3);
    }

    private static void anotherNumber() {
        CHECK.sentence("BAD: another number");
        for (int what : Check.outside(0, 7)) {
            CHECK.refused("count(" + what + ")", BAD, Room::filled, r -> r.count(what));
        }
        CHECK.refused("count(0)", 3, Room::filled, r -> r.count(0));
        CHECK.refused("count(7)", 3, Room::filled, r -> r.count(7));
    }

    private static void constants() {
        CHECK.sentence("BAD = -1, NONE = -2");
        due("BAD", RayRoom.BAD, -1);
        due("NONE", RayRoom.NONE, -2);
    }
}
