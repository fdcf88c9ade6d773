/** Promise 1: a new object. */
public final class Promise01Test {
    private static final Check CHECK = new Check("Promise01Test");
    private static final int BAD = RayRoom.BAD;
    private static final int NONE = RayRoom.NONE;

    public static void main(String[] args) {
        noTriangles();
        noLights();
        noTree();
        eyeAtZero();
        axesOfZero();
        oneByOne();
        nothingElse();
        roomsAreApart();
        CHECK.end();
    }

    private static void due(String call, long got, long want) {
        CHECK.due(call, got, want);
    }

    private static void noTriangles() {
        CHECK.sentence("No triangles");
        Room r = new Room();
        due("count(0)", r.count(0), 0);
        due("facing(0)", r.facing(0), -2);
        due("shared(0, 1)", r.shared(0, 1), BAD);
        due("set(3, 0, 1)", r.set(3, 0, 1), BAD);
        due("hit(0, 0)", r.hit(0, 0), NONE);
        due("cross(0, 0)", r.cross(0, 0), 0);
        due("seen(-1)", r.seen(-1), 0);
        due("build(1)", r.build(1), 0);
        r.point(1, 1, 1);
        due("move(0, 0)", r.move(0, 0), BAD);
        r.point(2, 2, 2);
        due("touched(-1)", r.touched(-1), 0);
        due("the first triangle is 0", r.collect(1, 0, 0).triangle(1), 0);
    }

    private static void noLights() {
        CHECK.sentence("no lights");
        Room r = new Room();
        due("count(5)", r.count(5), 0);
        r.put(255, -9, -9, -5, 9, -9, -5, 0, 9, -5);
        r.axis(0, 0, 0, -1);
        for (int level = 0; level < 16; level++) {
            r.set(0, level, 255);
        }
        due("pixel(0, 0)", r.pixel(0, 0), 0);
    }

    private static void noTree() {
        CHECK.sentence("no tree");
        Room r = new Room();
        due("count(2)", r.count(2), 0);
        due("count(6)", r.count(6), 0);
        due("refit()", r.refit(), BAD);
        due("node(0, 0)", r.node(0, 0), BAD);
        due("order(0)", r.order(0), BAD);
        due("meets(0, 0, 0)", r.meets(0, 0, 0), BAD);
    }

    /** Planes at -1 and 1 on each axis, all with N outwards: only 0 0 0 lies between them. */
    private static void eyeAtZero() {
        CHECK.sentence("the eye at 0 0 0");
        int[][] axes = {{0, 1, 2}, {1, 2, 0}, {2, 0, 1}};
        Room r = new Room();
        for (int[] axis : axes) {
            for (int sign = -1; sign <= 1; sign += 2) {
                int[] corners = new int[9];
                corners[axis[0]] = sign;
                corners[3 + axis[0]] = sign;
                corners[6 + axis[0]] = sign;
                corners[3 + axis[1]] = 1;
                corners[6 + axis[2]] = sign;
                r.put(1, corners);
            }
        }
        for (int i = 0; i < 6; i++) {
            due("facing(" + i + ")", r.facing(i), -1);
        }
        r.put(1, 0, 0, 0, 5, 0, 0, 0, 5, 0);
        r.put(1, 0, 0, 0, 0, 5, 0, 0, 0, 5);
        r.put(1, 0, 0, 0, 0, 0, 5, 5, 0, 0);
        for (int i = 6; i < 9; i++) {
            due("facing(" + i + ")", r.facing(i), 0);
        }
    }

    private static void axesOfZero() {
        CHECK.sentence("all axes 0 0 0");
        Room r = new Room();
        r.put(1, -9, -9, -1, 9, -9, -1, 0, 9, -1);
        r.put(1, -9, -9, 1, 9, -9, 1, 0, 9, 1);
        r.build(2);
        due("size(32, 32)", r.size(32, 32), 0);
        for (int k = 0; k < 32; k += 31) {
            due("hit in a corner", r.hit(k, 31 - k), NONE);
            due("cross in a corner", r.cross(k, 31 - k), 0);
            due("meets in a corner", r.meets(k, 31 - k, 0), 0);
        }
        due("axes 1 and 2 leave all room to axis 0", r.axis(0, 1023, -1023, 1023), 0);
        r.axis(0, 0, 0, -1);
        due("all rays are alike", r.hit(0, 0), 0);
        CHECK.dueAll("all rays are alike", r.allTold(), 0, 1, 1, 0, 0, -1, 1, 1, 1, 2, 4);
        due("all rays are alike", r.hit(31, 31), 0);
        CHECK.dueAll("all rays are alike", r.allTold(), 0, 1, 1, 0, 0, -1, 1, 1, 1, 2, 4);
    }

    private static void oneByOne() {
        CHECK.sentence("a picture of one by one");
        Room r = new Room();
        due("count(3)", r.count(3), 1);
        due("count(4)", r.count(4), 1);
        due("hit(0, 0)", r.hit(0, 0), NONE);
        due("hit(1, 0)", r.hit(1, 0), BAD);
        due("hit(0, 1)", r.hit(0, 1), BAD);
        due("picture(0, 0, 32, 32)", r.picture(0, 0, 32, 32), 31);
    }

    private static void nothingElse() {
        CHECK.sentence("a new object: no points, nothing at hand, no crossings; values as the terms tell");
        Room r = new Room();
        due("count(1)", r.count(1), 0);
        due("drop()", r.drop(), 0);
        due("count(7)", r.count(7), 0);
        due("crossing(0)", r.crossing(0), BAD);
        for (int what = 0; what <= 10; what++) {
            due("told(" + what + ")", r.told(what), Room.UNTOLD);
        }
        for (int level = 0; level < 16; level++) {
            due("the value of level " + level, r.set(0, level, 1), 17 * level);
        }
        due("back as pixel", r.pixel(0, 0), 0);
        due("ambient", r.set(1, 0, 1), 0);
        due("back", r.set(2, 0, 1), 0);
    }

    private static void roomsAreApart() {
        CHECK.sentence("A new object, beside another one");
        Room first = Room.filled();
        first.set(0, 15, 1);
        first.collect(1, 1, 1);
        Room second = new Room();
        CHECK.dueTrue("it is like one that was made alone", second.everything().equals(new Room().everything()));
        due("triangles of the first", first.count(0), 3);
        due("points of the first", first.count(1), 1);
    }
}
