/** Promise 27: shared. */
public final class Promise27Test {
    private static final Check CHECK = new Check("Promise27Test");
    private static final int BAD = RayRoom.BAD;

    public static void main(String[] args) {
        howMany();
        eachCornerWithEach();
        byTheirPlaces();
        afterAMove();
        noneSuch();
        bothAreOne();
        CHECK.end();
    }

    private static void due(String call, long got, long want) {
        CHECK.due(call, got, want);
    }

    private static void howMany() {
        CHECK.sentence("a corner (1), two corners (2), three (3) in common, or none (0)");
        Room r = new Room();
        r.put(1, 0, 0, 0, 5, 0, 0, 0, 5, 0);
        r.put(1, 0, 5, 0, 0, 0, 0, 5, 0, 0);
        r.put(1, 5, 5, 5, 0, 5, 0, 5, 0, 0);
        r.put(1, 0, 0, 0, 0, 0, 5, 0, -5, 0);
        r.put(1, 1, 1, 0, 9, 9, 0, 1, 9, 0);
        r.put(1, 0, 0, 5, 5, 5, 0, 1, 1, 1);
        int[][] want = {{BAD, 3, 2, 1, 0, 0}, {3, BAD, 2, 1, 0, 0}, {2, 2, BAD, 0, 0, 0},
            {1, 1, 0, BAD, 0, 1}, {0, 0, 0, 0, BAD, 0}, {0, 0, 0, 1, 0, BAD}};
        for (int i = 0; i < 6; i++) {
            for (int j = 0; j < 6; j++) {
                due("shared(" + i + ", " + j + ")", r.shared(i, j), want[i][j]);
            }
        }
    }

    private static void eachCornerWithEach() {
        CHECK.sentence("a corner in common (any of one with any of the other)");
        for (int c = 0; c < 3; c++) {
            for (int d = 0; d < 3; d++) {
                int[] a = {10, 0, 0, 0, 10, 0, 0, 0, 10};
                int[] b = {-10, 1, 0, 1, -10, 0, 0, 1, -10};
                System.arraycopy(a, 3 * c, b, 3 * d, 3);
                Room r = new Room();
                r.put(1, a);
                r.put(1, b);
                due("corner " + c + " is corner " + d, r.shared(0, 1), 1);
                due("the other way", r.shared(1, 0), 1);
            }
        }
    }

    private static void byTheirPlaces() {
        CHECK.sentence("by their places (all of x, y, z)");
        for (int axis = 0; axis < 3; axis++) {
            for (int step = -1; step <= 1; step += 2) {
                int[] b = {254, 254, 254, 0, -100, 0, 0, -100, 50};
                b[axis] += step;
                Room r = new Room();
                r.put(1, 254, 254, 254, 100, 0, 0, 100, 0, 50);
                r.put(1, b);
                due("one step beside it on axis " + axis, r.shared(0, 1), 0);
            }
        }
        Room r = new Room();
        r.put(1, 255, -255, 255, -255, 255, -255, 0, 0, 1);
        r.put(1, -255, 255, -255, 255, -255, 255, 0, 1, 0);
        due("at the ends of the room", r.shared(0, 1), 2);
    }

    private static void afterAMove() {
        CHECK.sentence("by their places (as they are now)");
        Room r = Room.filled();
        due("before", r.shared(1, 2), 3);
        r.moveTo(1, 1, 9, -9, 0);
        due("one is moved", r.shared(1, 2), 2);
        due("to a corner of 0", r.shared(0, 1), 1);
        r.moveTo(1, 0, 2, 2, -3);
        due("two are moved", r.shared(1, 2), 1);
        r.moveTo(1, 2, 2, 2, 7);
        due("all are moved", r.shared(1, 2), 0);
    }

    private static void noneSuch() {
        CHECK.sentence("BAD: none such");
        for (int i : Check.outside(0, 2)) {
            CHECK.refused("shared(" + i + ", 0)", BAD, Room::filled, r -> r.shared(i, 0));
            CHECK.refused("shared(2, " + i + ")", BAD, Room::filled, r -> r.shared(2, i));
            CHECK.refused("shared(" + i + ", " + i + ")", BAD, Room::filled, r -> r.shared(i, i));
        }
        CHECK.refused("shared(0, 2)", 0, Room::filled, r -> r.shared(0, 2));
        CHECK.refused("shared(2, 1)", 3, Room::filled, r -> r.shared(2, 1));
        due("without triangles", new Room().shared(0, 1), BAD);
        Room r = Room.pile(127);
        due("the last of 127", r.shared(126, 0), 0);
        due("one beyond", r.shared(127, 0), BAD);
        due("one beyond", r.shared(0, 127), BAD);
    }

    private static void bothAreOne() {
        CHECK.sentence("BAD: both are one");
        for (int i = 0; i < 3; i++) {
            final int k = i;
            CHECK.refused("shared(" + k + ", " + k + ")", BAD, Room::filled, r -> r.shared(k, k));
        }
        due("shared(0, 0) without triangles", new Room().shared(0, 0), BAD);
    }
}
