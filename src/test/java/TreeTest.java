/** Promises 11 to 14 and 19: the tree, its order, its boxes, and the nodes that a ray meets. */
public final class TreeTest {
    private static final Check CHECK = new Check("TreeTest");
    private static final int NONE = RayRoom.NONE;
    private static final int BAD = RayRoom.BAD;

    public static void main(String[] args) {
        builds();
        buildsWithoutTriangles();
        keepsAnOrderInLeaves();
        splitsAlongTheWidest();
        splitsByMiddles();
        movesAndRefits();
        nodes();
        meets();
        meetsSides();
        meetsWithoutDirection();
        CHECK.end();
    }

    private static void due(String call, long got, long want) {
        CHECK.due(call, got, want);
    }

    private static int small(Scene s, int x, int y, int z) {
        return s.triangle(1, x, y, z, x + 1, y, z, x, y + 1, z);
    }

    /** Five triangles in a row along x, numbered across. */
    private static Scene row() {
        Scene s = new Scene();
        for (int x : new int[] {40, 0, 30, 10, 20}) {
            small(s, x, 0, 0);
        }
        return s;
    }

    private static void builds() {
        Scene s = row();
        for (int least : new int[] {0, 9, -1, Integer.MIN_VALUE, Integer.MAX_VALUE}) {
            due("11: no such least", s.room.build(least), BAD);
            due("11: no tree", s.room.count(2), 0);
        }
        due("11: build(1)", s.room.build(1), 9);
        CHECK.dueAll("14: order", s.allOrder(), 1, 3, 4, 2, 0);
        CHECK.dueAll("13: node 0", s.allOf(0), 0, 5, 1, 4, NONE, 0, 0, 0, 41, 1, 0);
        CHECK.dueAll("13: node 1", s.allOf(1), 0, 2, 2, 3, 0, 0, 0, 0, 11, 1, 0);
        CHECK.dueAll("13: node 2", s.allOf(2), 0, 1, NONE, NONE, 1, 0, 0, 0, 1, 1, 0);
        CHECK.dueAll("13: node 3", s.allOf(3), 1, 1, NONE, NONE, 1, 10, 0, 0, 11, 1, 0);
        CHECK.dueAll("13: node 4", s.allOf(4), 2, 3, 5, 6, 0, 20, 0, 0, 41, 1, 0);
        CHECK.dueAll("13: node 5", s.allOf(5), 2, 1, NONE, NONE, 4, 20, 0, 0, 21, 1, 0);
        CHECK.dueAll("13: node 6", s.allOf(6), 3, 2, 7, 8, 4, 30, 0, 0, 41, 1, 0);
        CHECK.dueAll("13: node 7", s.allOf(7), 3, 1, NONE, NONE, 6, 30, 0, 0, 31, 1, 0);
        CHECK.dueAll("13: node 8", s.allOf(8), 4, 1, NONE, NONE, 6, 40, 0, 0, 41, 1, 0);
        due("28: depth", s.room.count(6), 3);
        due("11: a wrong least", s.room.build(0), BAD);
        due("11: changes nothing", s.room.count(2), 9);
    }

    private static void buildsWithoutTriangles() {
        Scene s = new Scene();
        due("11: without triangles", s.room.build(1), 0);
        due("13: no tree", s.room.node(0, 0), BAD);
        due("14: no tree", s.room.order(0), BAD);
        due("12: no tree", s.room.refit(), BAD);
        due("19: no tree", s.room.meets(0, 0, 0), BAD);
        due("11: a wrong least", s.room.build(9), BAD);
    }

    private static void keepsAnOrderInLeaves() {
        Scene s = row();
        due("11: build(2)", s.room.build(2), 5);
        CHECK.dueAll("14: a leaf keeps the order of the node above", s.allOrder(), 1, 3, 4, 2, 0);
        due("28: depth", s.room.count(6), 2);
        due("11: build(3)", s.room.build(3), 3);
        due("11: build(4)", s.room.build(4), 3);
        due("11: build(5)", s.room.build(5), 1);
        CHECK.dueAll("14: one node has them by number", s.allOrder(), 0, 1, 2, 3, 4);
        CHECK.dueAll("13: node 0", s.allOf(0), 0, 5, NONE, NONE, NONE, 0, 0, 0, 41, 1, 0);
        due("28: depth", s.room.count(6), 0);
        due("11: build(8)", s.room.build(8), 1);
        due("14: order(5)", s.room.order(5), BAD);
        due("14: order(-1)", s.room.order(-1), BAD);
    }

    private static Scene pair(int... at) {
        Scene s = new Scene();
        for (int k = 0; k < at.length; k += 3) {
            small(s, at[k], at[k + 1], at[k + 2]);
        }
        s.room.build(1);
        return s;
    }

    private static void splitsAlongTheWidest() {
        CHECK.dueAll("11: x before y", pair(30, 0, 0, 0, 30, 0).allOrder(), 1, 0);
        CHECK.dueAll("11: y before z", pair(0, 30, 0, 0, 0, 30).allOrder(), 1, 0);
        CHECK.dueAll("11: x before z", pair(30, 0, 0, 0, 0, 30).allOrder(), 1, 0);
        CHECK.dueAll("11: y is wider", pair(0, 31, 0, 30, 0, 0).allOrder(), 1, 0);
        CHECK.dueAll("11: z is wider", pair(0, 0, 31, 30, 30, 0).allOrder(), 1, 0);
        CHECK.dueAll("11: equal ones by number", pair(5, 5, 5, 5, 5, 5, 5, 5, 5).allOrder(), 0, 1, 2);
        CHECK.dueAll("11: equal sums by number", pair(9, 1, 1, 0, 2, 2, 0, 0, 0).allOrder(), 1, 2, 0);
        // First along x into 1, 3 and 0, 2, then each half along y.
        CHECK.dueAll("11: each node by its own axis",
            pair(100, 9, 0, 0, 9, 0, 101, 0, 0, 1, 0, 0).allOrder(), 3, 1, 2, 0);
    }

    private static void splitsByMiddles() {
        Scene s = new Scene();
        // Both boxes have the same middle, but the sums of corners are 60 and 45.
        s.triangle(1, 0, 0, 0, 30, 0, 0, 30, 1, 0);
        s.triangle(1, 14, 0, 0, 16, 0, 0, 15, 1, 0);
        s.room.build(1);
        CHECK.dueAll("11: by sums of corners", s.allOrder(), 1, 0);
    }

    private static void movesAndRefits() {
        Scene s = row();
        due("12: no tree", s.room.refit(), BAD);
        s.room.build(1);
        due("12: nothing has changed", s.room.refit(), 0);
        s.move(3, 2, 10, 5, 0);
        due("4: the box of node 3 stays", s.room.node(3, 9), 1);
        due("12: nodes 3, 1 and 0", s.room.refit(), 3);
        due("12: node 3", s.room.node(3, 9), 5);
        due("12: node 1", s.room.node(1, 9), 5);
        due("12: node 0", s.room.node(0, 9), 5);
        due("12: node 2 as it was", s.room.node(2, 9), 1);
        due("12: again", s.room.refit(), 0);
        s.move(2, 2, 30, 4, 0);
        due("12: node 0 is as high as it was", s.room.refit(), 3);
        due("12: node 6", s.room.node(6, 9), 4);
        s.move(1, 0, 200, 0, 0);
        s.move(1, 1, 201, 0, 0);
        s.move(1, 2, 200, 1, 0);
        due("12: nodes 2, 1 and 0", s.room.refit(), 3);
        CHECK.dueAll("12: the order stays", s.allOrder(), 1, 3, 4, 2, 0);
        CHECK.dueAll("12: node 1", s.allOf(1), 0, 2, 2, 3, 0, 10, 0, 0, 201, 5, 0);
        due("11: anew", s.room.build(1), 9);
        CHECK.dueAll("11: with the new places", s.allOrder(), 3, 4, 2, 0, 1);
    }

    private static void nodes() {
        Scene s = row();
        s.room.build(1);
        int[] wrong = {-1, 9, Integer.MIN_VALUE, Integer.MAX_VALUE};
        for (int i : wrong) {
            due("13: no such node", s.room.node(i, 0), BAD);
        }
        for (int what : new int[] {-1, 11, Integer.MIN_VALUE, Integer.MAX_VALUE}) {
            due("13: none such", s.room.node(0, what), BAD);
        }
        for (int k : new int[] {-1, 5, Integer.MIN_VALUE, Integer.MAX_VALUE}) {
            due("14: none such", s.room.order(k), BAD);
        }
    }

    /** Two triangles upright in the plane z = 0, seen from z = 10. */
    private static Scene two() {
        Scene s = new Scene();
        s.triangle(1, -8, 0, 0, -4, 0, 0, -4, 4, 0);
        s.triangle(1, 4, 0, 2, 8, 0, 2, 4, 4, 2);
        s.room.build(1);
        s.eye(0, 0, 10);
        return s;
    }

    private static void dueMeets(String what, Scene s, int nodes, int triangles) {
        due("19: nodes: " + what, s.room.meets(0, 0, 0), nodes);
        due("19: triangles: " + what, s.room.meets(0, 0, 1), triangles);
    }

    private static void meets() {
        Scene s = two();
        s.room.axis(0, -6, 3, -10);
        dueMeets("the left box, beside its triangle", s, 2, 1);
        due("15: beside the triangle", s.room.hit(0, 0), NONE);
        s.room.axis(0, 0, 2, -10);
        dueMeets("between the two", s, 1, 0);
        s.room.axis(0, 0, 0, 1);
        dueMeets("away", s, 0, 0);
        s.eye(-20, 2, 1);
        s.room.axis(0, 1, 0, 0);
        dueMeets("above the left one, below the right one", s, 1, 0);
        s.eye(-20, 2, 2);
        dueMeets("at the right one's height", s, 2, 1);
        s.eye(-6, 2, 0);
        s.room.axis(0, 0, 0, 1);
        dueMeets("out from inside", s, 2, 1);
        s.room.build(2);
        dueMeets("one node has both", s, 1, 2);
        for (int what : new int[] {-1, 2, Integer.MIN_VALUE, Integer.MAX_VALUE}) {
            due("19: none such", s.room.meets(0, 0, what), BAD);
        }
        due("19: no pixel", s.room.meets(1, 0, 0), BAD);
        due("19: no pixel", s.room.meets(0, -1, 0), BAD);
        s.move(0, 0, -8, 0, 50);
        s.eye(-6, 2, 40);
        s.room.axis(0, 1, 0, 0);
        dueMeets("the old boxes", s, 0, 0);
        s.room.refit();
        dueMeets("the new boxes", s, 1, 2);
    }

    private static void meetsSides() {
        Scene s = new Scene();
        s.triangle(1, 0, 0, 0, 4, 0, 0, 4, 4, 4);
        s.room.build(1);
        int[][] touching = {
            {-1, 4, 4, 1, 0, 0}, {4, -1, 0, 0, 1, 0}, {0, 0, -1, 0, 0, 1},
            {9, -1, 2, -1, 1, 0}, {-1, 1, 2, 1, -1, 0}, {-2, 10, 10, 1, -1, -1}, {5, 9, -1, -10, -10, 10},
            {4, 4, 4, 1, 1, 1}, {0, 2, 2, -1, 0, 0}, {5, 5, -1, -1, -1, 1}, {-3, -3, -3, 1, 1, 1},
            {6, 4, 4, -7, 0, 0}};
        int[][] missing = {
            {-1, 5, 4, 1, 0, 0}, {4, -1, -1, 0, 1, 0}, {5, 0, -1, 0, 0, 1},
            {10, -1, 2, -1, 1, 0}, {-2, 1, 2, 1, -1, 0}, {-2, 11, 10, 1, -1, -1}, {5, 9, -1, -10, -9, 10},
            {5, 4, 4, 1, 0, 0}, {-1, 2, 2, -1, 0, 0}, {4, 4, 5, 1023, 1023, -1}};
        for (int[] r : touching) {
            s.eye(r[0], r[1], r[2]);
            s.room.axis(0, r[3], r[4], r[5]);
            dueMeets("touching " + java.util.Arrays.toString(r), s, 1, 1);
        }
        for (int[] r : missing) {
            s.eye(r[0], r[1], r[2]);
            s.room.axis(0, r[3], r[4], r[5]);
            dueMeets("missing " + java.util.Arrays.toString(r), s, 0, 0);
        }
    }

    private static void meetsWithoutDirection() {
        Scene s = two();
        s.eye(-6, 2, 0);
        s.room.axis(0, 0, 0, 0);
        dueMeets("a direction of 0 0 0, the eye in the boxes", s, 0, 0);
    }
}
