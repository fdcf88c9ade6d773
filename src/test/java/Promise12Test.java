/** Promise 12: refit. */
public final class Promise12Test {
    private static final Check CHECK = new Check("Promise12Test");
    private static final int BAD = RayRoom.BAD;

    public static void main(String[] args) {
        noTree();
        noneChanged();
        eachSide();
        howManyChanged();
        theTreeAsItIs();
        CHECK.end();
    }

    private static void due(String call, long got, long want) {
        CHECK.due(call, got, want);
    }

    private static void noTree() {
        CHECK.sentence("BAD: no tree");
        CHECK.refused("refit() of a new object", BAD, Room::new, Room::refit);
        Room r = Room.filled();
        r.put(1, 0, 0, 0, 5, 0, 0, 0, 5, 1);
        due("after one more triangle", r.refit(), BAD);
        CHECK.refused("with triangles, but not built", BAD, () -> Room.row(1, 2), Room::refit);
        Room s = new Room();
        s.build(1);
        due("built without triangles", s.refit(), BAD);
    }

    private static void noneChanged() {
        CHECK.sentence("how many changed (none)");
        CHECK.refused("refit()", 0, Room::filled, Room::refit);
        Room r = Room.filled();
        r.moveTo(0, 2, 1, 9, 0);
        due("a corner within the box", r.refit(), 0);
        r.moveTo(0, 2, 0, 20, 0);
        r.moveTo(0, 2, 0, 9, 0);
        due("away and back", r.refit(), 0);
        r.moveTo(0, 2, 0, -9, 0);
        due("a move that was none", r.refit(), 0);
        r.put(256, 0, 0, 0, 5, 0, 0, 0, 5, 1);
        due("a triangle that was none", r.refit(), 0);
    }

    private static void eachSide() {
        CHECK.sentence("how many changed (each side of a box)");
        int[][] moves = {{0, -1, 0, 0}, {0, 0, -1, 0}, {0, 0, 0, -1}, {2, 5, 4, 4}, {2, 4, 5, 4}, {2, 4, 4, 5},
            {0, 1, 0, 0}, {0, 0, 1, 0}, {0, 0, 0, 1}, {2, 3, 4, 4}, {2, 4, 3, 4}, {2, 4, 4, 3}};
        for (int[] m : moves) {
            Room r = new Room();
            r.put(1, 0, 0, 0, 2, 2, 1, 4, 4, 4);
            r.build(1);
            r.moveTo(0, m[0], m[1], m[2], m[3]);
            int least = m[0] == 0 ? 5 : 8;
            long[] want = {0, 1, -2, -2, -2, 0, 0, 0, 4, 4, 4};
            CHECK.dueAll("before refit()", r.allOf(0), want);
            due("refit()", r.refit(), 1);
            for (int axis = 0; axis < 3; axis++) {
                want[least + axis] = m[1 + axis];
            }
            CHECK.dueAll("after refit()", r.allOf(0), want);
            due("refit() again", r.refit(), 0);
        }
    }

    private static void howManyChanged() {
        CHECK.sentence("The boxes become those of the triangles as they are now: how many changed");
        Room r = Room.row(40, 0, 30, 10, 20);
        r.build(1);
        r.moveTo(3, 2, 10, 5, 0);
        due("nodes 3, 1 and 0", r.refit(), 3);
        due("node 3", r.node(3, 9), 5);
        due("node 1", r.node(1, 9), 5);
        due("node 0", r.node(0, 9), 5);
        due("node 2 as it was", r.node(2, 9), 1);
        due("again", r.refit(), 0);
        r.moveTo(2, 2, 30, 4, 0);
        due("nodes 7, 6 and 4; node 0 is as high", r.refit(), 3);
        due("node 6", r.node(6, 9), 4);
        for (int i = 0; i < 5; i++) {
            r.moveTo(i, 2, 0, 0, 200 + i);
        }
        due("all", r.refit(), 9);
        due("node 0", r.node(0, 10), 204);
    }

    private static void theTreeAsItIs() {
        CHECK.sentence("in the tree as it is");
        Room r = Room.row(40, 0, 30, 10, 20);
        r.build(1);
        r.moveTo(1, 0, 200, 0, 0);
        r.moveTo(1, 1, 201, 0, 0);
        r.moveTo(1, 2, 200, 1, 0);
        due("nodes 2, 1 and 0", r.refit(), 3);
        CHECK.dueAll("the order stays", r.allOrder(), 1, 3, 4, 2, 0);
        CHECK.dueAll("node 1", r.allOf(1), 0, 2, 2, 3, 0, 10, 0, 0, 201, 1, 0);
        due("nodes", r.count(2), 9);
        due("depth", r.count(6), 3);
    }
}
