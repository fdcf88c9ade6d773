/** Promise 13: node. */
public final class Promise13Test {
    private static final Check CHECK = new Check("Promise13Test");
    private static final int BAD = RayRoom.BAD;
    private static final int NONE = RayRoom.NONE;

    public static void main(String[] args) {
        oneNode();
        lowerAndUpper();
        boxesAtTheEdge();
        boxesOfEachCorner();
        noSuchNode();
        noSuchNumber();
        noTree();
        CHECK.end();
    }

    private static void due(String call, long got, long want) {
        CHECK.due(call, got, want);
    }

    private static void oneNode() {
        CHECK.sentence("2 the lower node (NONE), 3 the upper one (NONE), 4 the node above it (NONE)");
        Room r = new Room();
        r.put(1, 1, -2, 3, -4, 5, -6, 7, 0, 9);
        r.build(1);
        CHECK.dueAll("node 0", r.allOf(0), 0, 1, NONE, NONE, NONE, -4, -2, -6, 7, 5, 9);
    }

    private static void lowerAndUpper() {
        CHECK.sentence("0 the place of its first triangle, 1 how many, 2 the lower node, 3 the upper one, 4 the node above");
        Room r = Room.row(20, 0, 10);
        r.build(1);
        CHECK.dueAll("node 0", r.allOf(0), 0, 3, 1, 2, NONE, 0, 0, 0, 21, 1, 0);
        CHECK.dueAll("node 1", r.allOf(1), 0, 1, NONE, NONE, 0, 0, 0, 0, 1, 1, 0);
        CHECK.dueAll("node 2", r.allOf(2), 1, 2, 3, 4, 0, 10, 0, 0, 21, 1, 0);
        CHECK.dueAll("node 3", r.allOf(3), 1, 1, NONE, NONE, 2, 10, 0, 0, 11, 1, 0);
        CHECK.dueAll("node 4", r.allOf(4), 2, 1, NONE, NONE, 2, 20, 0, 0, 21, 1, 0);
        Room s = Room.pile(126);
        due("build(1)", s.build(1), 251);
        due("the last node", s.node(250, 0), 125);
        due("has one", s.node(250, 1), 1);
        due("and none below", s.node(250, 3), NONE);
        due("no node after it", s.node(251, 0), BAD);
    }

    private static void boxesAtTheEdge() {
        CHECK.sentence("5 to 7 the least x, y, z of its box, 8 to 10 the greatest (from one end to the other)");
        Room r = new Room();
        r.put(1, -255, 255, -255, 255, -255, 255, 0, 0, 1);
        r.put(1, 254, 253, 252, 255, 255, 255, 255, 253, 254);
        r.build(1);
        CHECK.dueAll("node 0", r.allOf(0), 0, 2, 1, 2, NONE, -255, -255, -255, 255, 255, 255);
        CHECK.dueAll("node 1", r.allOf(1), 0, 1, NONE, NONE, 0, -255, -255, -255, 255, 255, 255);
        CHECK.dueAll("node 2", r.allOf(2), 1, 1, NONE, NONE, 0, 254, 253, 252, 255, 255, 255);
    }

    private static void boxesOfEachCorner() {
        CHECK.sentence("A node's BOX is the least one that has all corners of its triangles");
        for (int k = 0; k < 9; k++) {
            for (int far = -50; far <= 50; far += 100) {
                int[] corners = {1, 2, 3, 4, 5, 7, 8, 9, 9};
                corners[k] = far;
                Room r = new Room();
                r.put(1, 2, 3, 4, 3, 3, 4, 2, 4, 4);
                r.put(1, corners);
                r.build(2);
                for (int axis = 0; axis < 3; axis++) {
                    int a = corners[axis];
                    int b = corners[3 + axis];
                    int c = corners[6 + axis];
                    due("least on " + axis, r.node(0, 5 + axis), Math.min(2 + axis, Math.min(a, Math.min(b, c))));
                    due("greatest on " + axis, r.node(0, 8 + axis), Math.max(3, Math.max(a, Math.max(b, c))));
                }
            }
        }
    }

    private static void noSuchNode() {
        CHECK.sentence("BAD: none such (node)");
        for (int i : Check.outside(0, 4)) {
            for (int what = 0; what <= 10; what += 5) {
                final int w = what;
                CHECK.refused("node(" + i + ", " + w + ")", BAD, Room::filled, r -> r.node(i, w));
            }
        }
        due("node(4, 1)", Room.filled().node(4, 1), 1);
        Room r = Room.row(1, 2, 3);
        r.build(1);
        r.build(8);
        due("of a tree that was", r.node(1, 1), BAD);
    }

    private static void noSuchNumber() {
        CHECK.sentence("BAD: none such (what)");
        for (int what : Check.outside(0, 10)) {
            for (int i = 0; i < 5; i += 4) {
                final int node = i;
                CHECK.refused("node(" + node + ", " + what + ")", BAD, Room::filled, r -> r.node(node, what));
            }
        }
        due("node(0, 0)", Room.filled().node(0, 0), 0);
        due("node(0, 10)", Room.filled().node(0, 10), 3);
    }

    private static void noTree() {
        CHECK.sentence("BAD: no tree");
        for (int what = -1; what <= 11; what++) {
            due("new: node(0, " + what + ")", new Room().node(0, what), BAD);
            Room r = Room.filled();
            r.put(1, 0, 0, 0, 5, 0, 0, 0, 5, 1);
            due("after one more triangle: node(0, " + what + ")", r.node(0, what), BAD);
        }
    }
}
