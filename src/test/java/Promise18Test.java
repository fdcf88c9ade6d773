/** Promise 18: crossing. */
public final class Promise18Test {
    private static final Check CHECK = new Check("Promise18Test");
    private static final int BAD = RayRoom.BAD;

    public static void main(String[] args) {
        byT();
        thenByNumber();
        noneSuch();
        noCrossings();
        CHECK.end();
    }

    private static void due(String call, long got, long want) {
        CHECK.due(call, got, want);
    }

    private static void byT() {
        CHECK.sentence("The k-th crossing, by t");
        Room r = Room.stack(0, 3, -5, 9, -200, 4);
        r.cross(0, 0);
        CHECK.dueAll("crossings", r.allCrossings(), 3, 5, 1, 0, 2, 4);
        // Leaning ones, whose t are no whole numbers: 2 + 1/2 and 2 + 1/3 below the eye.
        Room s = new Room();
        s.put(1, -1, -9, -2, 1, -9, -3, 0, 18, -3);
        s.put(1, -3, -9, -2, 3, -9, -3, 0, 18, -2);
        s.put(1, -3, -9, -2, 3, -9, -2, 0, 18, -3);
        s.axis(0, 0, 0, -1);
        due("cross(0, 0)", s.cross(0, 0), 3);
        CHECK.dueAll("crossings", s.allCrossings(), 1, 2, 0);
    }

    private static void thenByNumber() {
        CHECK.sentence("by t, then by number");
        Room r = Room.stack(0, 3, -5, 3, 20, 9, 10, 0);
        due("cross(0, 0)", r.cross(0, 0), 6);
        CHECK.dueAll("crossings", r.allCrossings(), 5, 1, 3, 0, 7, 2);
        Room s = Room.stack(4, 4, 4, 4);
        s.moveTo(1, 2, 0, 11, 4);
        s.moveTo(2, 0, -100, -90, 4);
        s.cross(0, 0);
        CHECK.dueAll("four in one plane", s.allCrossings(), 0, 1, 2, 3);
    }

    private static void noneSuch() {
        CHECK.sentence("BAD: none such");
        for (int k : Check.outside(0, 2)) {
            CHECK.refused("crossing(" + k + ")", BAD, Room::filled, r -> r.crossing(k));
        }
        due("crossing(0)", Room.filled().crossing(0), 1);
        due("crossing(2)", Room.filled().crossing(2), 0);
        Room r = Room.filled();
        r.cross(0, 1);
        due("crossing(0) of one", r.crossing(0), 0);
        due("crossing(1) of one", r.crossing(1), BAD);
    }

    private static void noCrossings() {
        CHECK.sentence("BAD: none such (there are no crossings)");
        due("in a new object", new Room().crossing(0), BAD);
        due("before any cross()", Room.stack(0).crossing(0), BAD);
        Room r = Room.filled();
        r.cross(0, 0);
        for (int k = -1; k <= 3; k++) {
            due("crossing(" + k + ")", r.crossing(k), BAD);
        }
    }
}
