/** Promise 19: meets. */
public final class Promise19Test {
    private static final Check CHECK = new Check("Promise19Test");
    private static final int BAD = RayRoom.BAD;

    public static void main(String[] args) {
        nodesAndTriangles();
        itsSidesBelongToIt();
        tOfZeroOrMore();
        noDirection();
        boxesAsTheyAre();
        fewerNodesThanBefore();
        allAroundABox();
        asManyAsMayBe();
        noneSuch();
        noSuchPixel();
        noTree();
        CHECK.end();
    }

    private static void due(String call, long got, long want) {
        CHECK.due(call, got, want);
    }

    private static void dueMeets(String what, Room r, int nodes, int triangles) {
        due("meets(0, 0, 0): " + what, r.meets(0, 0, 0), nodes);
        due("meets(0, 0, 1): " + what, r.meets(0, 0, 1), triangles);
    }

    /** Two triangles beside each other, the right one somewhat higher. */
    private static Room two() {
        Room r = new Room();
        r.put(1, -8, 0, 0, -4, 0, 0, -4, 4, 0);
        r.put(1, 4, 0, 2, 8, 0, 2, 4, 4, 2);
        r.build(1);
        r.eyeAt(0, 0, 10);
        return r;
    }

    private static void nodesAndTriangles() {
        CHECK.sentence("How many nodes the ray MEETS (0), how many triangles lie in those that have none below (1)");
        Room r = two();
        r.axis(0, -6, 3, -10);
        dueMeets("the left box, beside its triangle", r, 2, 1);
        due("hit", r.hit(0, 0), RayRoom.NONE);
        r.axis(0, 0, 2, -10);
        dueMeets("between the two", r, 1, 0);
        r.axis(0, 0, 0, 1);
        dueMeets("away", r, 0, 0);
        r.eyeAt(-20, 2, 1);
        r.axis(0, 1, 0, 0);
        dueMeets("above the left one, below the right one", r, 1, 0);
        r.eyeAt(-20, 2, 2);
        dueMeets("at the right one's height", r, 2, 1);
        r.build(2);
        dueMeets("one node has both", r, 1, 2);
        Room s = Room.row(0, 10, 20, 30, 40);
        s.build(2);
        s.eyeAt(-1, 0, 0);
        s.axis(0, 1, 0, 0);
        dueMeets("all of five, with leaves of 2, 1 and 2", s, 5, 5);
    }

    private static void itsSidesBelongToIt() {
        CHECK.sentence("lies in the box (its sides belong to it)");
        Room r = new Room();
        r.put(1, 0, 0, 0, 4, 0, 0, 4, 4, 4);
        r.build(1);
        int[][] touching = {
            {-1, 4, 4, 1, 0, 0}, {-1, 0, 0, 1, 0, 0}, {4, -1, 0, 0, 1, 0}, {0, -1, 4, 0, 1, 0}, {0, 0, -1, 0, 0, 1},
            {4, 4, 9, 0, 0, -1}, {9, -1, 2, -1, 1, 0}, {-1, 1, 2, 1, -1, 0}, {-2, 10, 10, 1, -1, -1},
            {5, 9, -1, -10, -10, 10}, {5, 5, -1, -1, -1, 1}, {-3, -3, -3, 1, 1, 1}, {6, 4, 4, -7, 0, 0}};
        int[][] missing = {
            {-1, 5, 4, 1, 0, 0}, {-1, 0, -1, 1, 0, 0}, {4, -1, -1, 0, 1, 0}, {-1, -1, 4, 0, 1, 0}, {5, 0, -1, 0, 0, 1},
            {4, 5, 9, 0, 0, -1}, {10, -1, 2, -1, 1, 0}, {-2, 1, 2, 1, -1, 0}, {-2, 11, 10, 1, -1, -1},
            {5, 9, -1, -10, -9, 10}};
        for (int[] v : touching) {
            r.eyeAt(v[0], v[1], v[2]);
            r.axis(0, v[3], v[4], v[5]);
            dueMeets("touching " + java.util.Arrays.toString(v), r, 1, 1);
        }
        for (int[] v : missing) {
            r.eyeAt(v[0], v[1], v[2]);
            r.axis(0, v[3], v[4], v[5]);
            dueMeets("missing " + java.util.Arrays.toString(v), r, 0, 0);
        }
    }

    private static void tOfZeroOrMore() {
        CHECK.sentence("some E + t D with t of 0 or more");
        Room r = new Room();
        r.put(1, 0, 0, 0, 4, 0, 0, 4, 4, 4);
        r.build(1);
        int[][] from = {{4, 4, 4, 1, 1, 1}, {0, 2, 2, -1, 0, 0}, {2, 4, 2, 0, 1, 0}, {0, 0, 0, -1, 1, -1},
            {2, 2, 2, 0, 0, 1}, {2, 2, 2, -1023, 1023, 5}};
        for (int[] v : from) {
            r.eyeAt(v[0], v[1], v[2]);
            r.axis(0, v[3], v[4], v[5]);
            dueMeets("t = 0: " + java.util.Arrays.toString(v), r, 1, 1);
        }
        int[][] behind = {{5, 4, 4, 1, 0, 0}, {-1, 2, 2, -1, 0, 0}, {4, 4, 5, 1023, 1023, -1}, {2, 5, 2, 0, 1, 0},
            {2, 2, -1, 1, 0, -1023}};
        for (int[] v : behind) {
            r.eyeAt(v[0], v[1], v[2]);
            r.axis(0, v[3], v[4], v[5]);
            dueMeets("t below 0: " + java.util.Arrays.toString(v), r, 0, 0);
        }
    }

    private static void noDirection() {
        CHECK.sentence("(A D of 0 0 0 meets nothing.)");
        Room r = two();
        r.eyeAt(-6, 2, 0);
        r.axis(0, 0, 0, 0);
        dueMeets("the eye in the boxes", r, 0, 0);
        r.eyeAt(0, 0, 100);
        dueMeets("the eye far away", r, 0, 0);
    }

    private static void boxesAsTheyAre() {
        CHECK.sentence("the nodes of the tree (with their boxes as they are)");
        Room r = two();
        r.build(2);
        r.moveTo(0, 0, -8, 0, 50);
        r.eyeAt(-6, 2, 40);
        r.axis(0, 1, 0, 0);
        dueMeets("the boxes stay at a move", r, 0, 0);
        r.refit();
        dueMeets("the boxes after refit()", r, 1, 2);
    }

    private static void fewerNodesThanBefore() {
        CHECK.sentence("the nodes of the tree (not those of a tree that was)");
        Room r = Room.row(0, 10, 20, 30, 40);
        r.eyeAt(-1, 0, 0);
        r.axis(0, 1, 0, 0);
        r.build(1);
        dueMeets("build(1)", r, 9, 5);
        r.build(2);
        dueMeets("build(2)", r, 5, 5);
        r.build(8);
        dueMeets("build(8)", r, 1, 5);
        r.axis(0, -1, 0, 0);
        dueMeets("away", r, 0, 0);
    }

    /** Rays from a grid of places all around, with the answer of the model, which looks for places in the box. */
    private static void allAroundABox() {
        CHECK.sentence("A ray MEETS a node, if some E + t D with t of 0 or more lies in the box");
        int[][] eyes = {{-2, 1, 1}, {5, -1, 1}, {1, 4, 3}, {-1, -1, -1}, {6, 5, 3}, {2, 2, 5}, {0, 3, 4}, {4, 1, -2},
            {1, 1, 1}, {4, 3, 2}, {-3, 6, 2}, {9, 0, 0}};
        for (int[] e : eyes) {
            for (int dx = -3; dx <= 3; dx++) {
                Room r = new Room();
                Model model = new Model();
                r.put(1, 0, 0, 0, 4, 0, 0, 4, 3, 2);
                r.build(1);
                r.eyeAt(e[0], e[1], e[2]);
                model.put(1, 0, 0, 0, 4, 0, 0, 4, 3, 2);
                model.build(1);
                model.eyeAt(e[0], e[1], e[2]);
                for (int k = 0; k < 49; k++) {
                    int dy = k % 7 - 3;
                    int dz = k / 7 - 3;
                    r.axis(0, dx, dy, dz);
                    model.axis(0, dx, dy, dz);
                    due("from " + java.util.Arrays.toString(e) + " along " + dx + " " + dy + " " + dz,
                        r.meets(0, 0, 0), model.meets(0, 0, 0));
                }
            }
        }
    }

    private static void asManyAsMayBe() {
        CHECK.sentence("How many nodes, how many triangles (as many as may be)");
        Room r = Room.pile(126);
        r.build(1);
        r.axis(0, 0, 0, -1);
        dueMeets("126 triangles below each other", r, 251, 126);
        Room all = Room.pile(128).beyondAllCalls();
        all.build(1);
        all.axis(0, 0, 0, -1);
        dueMeets("128 triangles below each other", all, 255, 128);
    }

    private static void noneSuch() {
        CHECK.sentence("BAD: none such (what)");
        for (int what : Check.outside(0, 1)) {
            CHECK.refused("meets(1, 1, " + what + ")", BAD, Room::filled, r -> r.meets(1, 1, what));
        }
        due("meets(1, 1, 0)", Room.filled().meets(1, 1, 0), 5);
        due("meets(1, 1, 1)", Room.filled().meets(1, 1, 1), 3);
    }

    private static void noSuchPixel() {
        CHECK.sentence("BAD: none such (pixel)");
        for (int x : Check.outside(0, 2)) {
            CHECK.refused("meets(" + x + ", 1, 0)", BAD, Room::filled, r -> r.meets(x, 1, 0));
            CHECK.refused("meets(" + x + ", 1, 1)", BAD, Room::filled, r -> r.meets(x, 1, 1));
        }
        for (int y : Check.outside(0, 1)) {
            CHECK.refused("meets(1, " + y + ", 0)", BAD, Room::filled, r -> r.meets(1, y, 0));
        }
        due("meets(0, 1, 1)", Room.filled().meets(0, 1, 1), 1);
        due("meets(2, 1, 1)", Room.filled().meets(2, 1, 1), 1);
    }

    private static void noTree() {
        CHECK.sentence("BAD: no tree");
        due("in a new object", new Room().meets(0, 0, 0), BAD);
        due("in a new object", new Room().meets(0, 0, 1), BAD);
        due("not built", Room.stack(0).meets(0, 0, 0), BAD);
        Room r = Room.filled();
        r.put(1, 0, 0, 0, 5, 0, 0, 0, 5, 1);
        due("after one more triangle", r.meets(1, 1, 0), BAD);
        due("after one more triangle", r.meets(1, 1, 1), BAD);
    }
}
