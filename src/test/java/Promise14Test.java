/** Promise 14: order. */
public final class Promise14Test {
    private static final Check CHECK = new Check("Promise14Test");
    private static final int BAD = RayRoom.BAD;

    public static void main(String[] args) {
        theKth();
        noneSuch();
        noTree();
        CHECK.end();
    }

    private static void due(String call, long got, long want) {
        CHECK.due(call, got, want);
    }

    private static void theKth() {
        CHECK.sentence("The k-th triangle in the order (the first is 0)");
        Room r = Room.row(40, 0, 30, 10, 20);
        r.build(1);
        long[] want = {1, 3, 4, 2, 0};
        for (int k = 0; k < 5; k++) {
            due("order(" + k + ")", r.order(k), want[k]);
        }
        Room s = Room.pile(127);
        s.build(1);
        due("order(0) of 127", s.order(0), 126);
        due("order(126) of 127", s.order(126), 0);
        due("order(127) of 127", s.order(127), BAD);
    }

    private static void noneSuch() {
        CHECK.sentence("BAD: none such");
        for (int k : Check.outside(0, 2)) {
            CHECK.refused("order(" + k + ")", BAD, Room::filled, r -> r.order(k));
        }
        Room one = Room.row(7);
        one.build(8);
        due("order(0) of one", one.order(0), 0);
        due("order(1) of one", one.order(1), BAD);
        due("order(-1) of one", one.order(-1), BAD);
    }

    private static void noTree() {
        CHECK.sentence("BAD: no tree");
        due("in a new object", new Room().order(0), BAD);
        due("with triangles, but not built", Room.row(1, 2).order(0), BAD);
        Room r = Room.filled();
        r.put(1, 0, 0, 0, 5, 0, 0, 0, 5, 1);
        for (int k = -1; k <= 4; k++) {
            due("after one more triangle: order(" + k + ")", r.order(k), BAD);
        }
        Room s = new Room();
        s.build(1);
        due("built without triangles", s.order(0), BAD);
    }
}
