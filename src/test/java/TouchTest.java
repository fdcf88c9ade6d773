import java.util.Arrays;

/** Promises 26 to 28: what a box touches, shared corners, and counts. */
public final class TouchTest {
    private static final Check CHECK = new Check("TouchTest");
    private static final int BAD = RayRoom.BAD;
    private static final int MIN = Integer.MIN_VALUE;
    private static final int MAX = Integer.MAX_VALUE;

    public static void main(String[] args) {
        boxes();
        manyTriangles();
        wrongOnes();
        shared();
        counts();
        constants();
        CHECK.end();
    }

    private static void due(String call, long got, long want) {
        CHECK.due(call, got, want);
    }

    /** Both ways around, and with all coordinates in another order: it is the same question. */
    private static void dueTouch(boolean want, int[] box, int... corners) {
        int[][] turns = {{0, 1, 2}, {1, 2, 0}, {2, 1, 0}};
        for (int[] turn : turns) {
            int[] b = turned(box, turn);
            Scene s = new Scene();
            s.triangle(1, turned(corners, turn));
            String call = "26: " + Arrays.toString(b) + " and " + Arrays.toString(turned(corners, turn));
            s.points(b);
            due(call, s.room.touched(-1), want ? 1 : 0);
            due(call, s.room.touched(0), want ? 0 : BAD);
            s.points(b[3], b[4], b[5], b[0], b[1], b[2]);
            due(call + " from the other corner", s.room.touched(-1), want ? 1 : 0);
            s.points(b[0], b[4], b[2], b[3], b[1], b[5]);
            due(call + " from another corner", s.room.touched(-1), want ? 1 : 0);
        }
    }

    private static int[] turned(int[] c, int[] turn) {
        int[] out = new int[c.length];
        for (int k = 0; k < c.length; k++) {
            out[k] = c[k / 3 * 3 + turn[k % 3]];
        }
        return out;
    }

    private static int[] box(int... c) {
        return c;
    }

    private static void boxes() {
        int[] cube = box(0, 0, 0, 2, 2, 2);
        dueTouch(true, box(-9, -9, -9, 9, 9, 9), 0, 0, 0, 1, 0, 0, 0, 1, 0);
        dueTouch(true, cube, -50, -50, 1, 50, -50, 1, 0, 90, 1);
        dueTouch(true, cube, -50, 1, 1, 50, 1, 1, 50, 60, 60);
        dueTouch(true, cube, -50, -50, 2, 50, -50, 2, 0, 90, 2);
        dueTouch(false, cube, -50, -50, 3, 50, -50, 3, 0, 90, 3);
        dueTouch(true, cube, 2, 2, 2, 5, 5, 5, 6, 5, 5);
        dueTouch(false, cube, 3, 2, 2, 5, 5, 5, 6, 5, 5);
        dueTouch(true, cube, 2, 1, 1, 9, 1, 1, 9, 2, 1);
        // Past a corner: parted only across an edge of each.
        dueTouch(true, cube, 5, -1, 1, -1, 5, 1, 6, 6, 1);
        dueTouch(false, cube, 6, -1, 1, -1, 6, 1, 6, 6, 1);
        // The plane x + y + z = 6 goes through a corner, 7 does not.
        dueTouch(true, cube, 6, 0, 0, 0, 6, 0, 0, 0, 6);
        dueTouch(false, cube, 7, 0, 0, 0, 7, 0, 0, 0, 7);
        // The plane goes through the box, the triangle ends before.
        dueTouch(false, cube, 3, -9, 1, 9, -9, 1, 9, 9, 1);
        dueTouch(false, cube, -1, 4, 1, 4, 9, 1, -1, 9, 1);
        dueTouch(true, box(0, 0, 0, 0, 0, 0), -1, -1, 0, 1, -1, 0, 0, 1, 0);
        dueTouch(true, box(1, -1, 0, 1, -1, 0), -1, -1, 0, 1, -1, 0, 0, 1, 0);
        dueTouch(true, box(0, 0, 0, 0, 0, 0), 5, -5, 0, -5, 5, 0, 9, 9, 0);
        dueTouch(false, box(0, 0, 0, 0, 0, 0), 6, -5, 0, -5, 6, 0, 9, 9, 0);
        dueTouch(false, box(0, 0, 1, 0, 0, 1), -1, -1, 0, 1, -1, 0, 0, 1, 0);
        dueTouch(true, box(0, 0, -5, 0, 0, 5), -1, -1, 0, 1, -1, 0, 0, 1, 0);
        dueTouch(false, box(1, 0, -5, 1, 0, 5), -1, -1, 0, 1, -1, 0, 0, 1, 0);
        dueTouch(true, box(-5, 0, 0, 5, 0, 0), -1, -1, 0, 1, -1, 0, 0, 1, 0);
        dueTouch(false, box(-5, 2, 0, 5, 2, 0), -1, -1, 0, 1, -1, 0, 0, 1, 0);
        dueTouch(true, box(-5, -5, 0, 5, 5, 0), 0, 0, -1, 1, 0, 1, 0, 1, 1);
        dueTouch(false, box(-5, -5, 0, 5, 5, 0), 0, 0, 1, 1, 0, 2, 0, 1, 2);
        dueTouch(false, box(-5, -5, 0, 0, 0, 0), 1, -9, 0, 9, -9, 0, 9, 9, 0);
        dueTouch(true, box(-255, -255, -255, 255, 255, 255), -255, 255, 255, 255, -255, 255, 255, 255, -255);
        dueTouch(true, box(-255, -255, -255, -255, -255, -255),
            -255, -255, -255, 255, -255, 255, 255, 255, -255);
        dueTouch(false, box(-255, -255, -255, -255, -255, -254),
            -254, -255, -255, 255, -255, 255, 255, 255, -255);
    }

    private static void manyTriangles() {
        Scene s = new Scene();
        for (int x = 0; x < 10; x++) {
            s.triangle(1, 4 * x, 0, 0, 4 * x + 1, 0, 0, 4 * x, 1, 0);
        }
        s.points(9, -1, -1, 20, 1, 1);
        CHECK.dueAll("26: by number", s.allTouched(), 2, 3, 4, 5);
        due("26: the points stay", s.room.count(1), 2);
        s.room.point(-200, -200, -200);
        CHECK.dueAll("26: the first two of three", s.allTouched(), 2, 3, 4, 5);
        due("26: the points stay", s.room.count(1), 3);
        s.move(4, 0, 16, 50, 0);
        s.move(4, 1, 17, 50, 0);
        s.move(4, 2, 17, 51, 0);
        s.points(20, 1, 1, 9, -1, -1);
        CHECK.dueAll("26: one has been moved", s.allTouched(), 2, 3, 5);
    }

    private static void wrongOnes() {
        Scene s = new Scene();
        s.triangle(1, 0, 0, 0, 1, 0, 0, 0, 1, 0);
        due("26: no point", s.room.touched(-1), BAD);
        s.points(0, 0, 0);
        due("26: one point", s.room.touched(-1), BAD);
        due("26: one point", s.room.touched(0), BAD);
        s.room.point(0, 0, 0);
        due("26: two", s.room.touched(-1), 1);
        for (int k : new int[] {-2, 1, MIN, MAX}) {
            due("26: none such", s.room.touched(k), BAD);
        }
        RayRoom empty = new RayRoom();
        empty.point(0, 0, 0);
        empty.point(0, 0, 0);
        due("26: no triangles", empty.touched(-1), 0);
        due("26: no triangles", empty.touched(0), BAD);
    }

    private static void shared() {
        Scene s = new Scene();
        s.triangle(1, 0, 0, 0, 5, 0, 0, 0, 5, 0);
        s.triangle(1, 0, 5, 0, 0, 0, 0, 5, 0, 0);
        s.triangle(1, 5, 5, 5, 0, 5, 0, 5, 0, 0);
        s.triangle(1, 0, 0, 0, 0, 0, 5, 0, -5, 0);
        s.triangle(1, 1, 1, 0, 9, 9, 0, 1, 9, 0);
        s.triangle(1, 0, 0, 5, 5, 5, 0, 1, 1, 1);
        int[][] want = {{BAD, 3, 2, 1, 0, 0}, {3, BAD, 2, 1, 0, 0}, {2, 2, BAD, 0, 0, 0},
            {1, 1, 0, BAD, 0, 1}, {0, 0, 0, 0, BAD, 0}, {0, 0, 0, 1, 0, BAD}};
        for (int i = 0; i < 6; i++) {
            for (int j = 0; j < 6; j++) {
                due("27: shared(" + i + ", " + j + ")", s.room.shared(i, j), want[i][j]);
            }
        }
        for (int v : new int[] {-1, 6, MIN, MAX}) {
            due("27: none such", s.room.shared(v, 0), BAD);
            due("27: none such", s.room.shared(0, v), BAD);
            due("27: none such", s.room.shared(v, v), BAD);
        }
        s.move(1, 1, 9, 9, 9);
        due("27: a corner is moved", s.room.shared(0, 1), 2);
        s.move(4, 1, 5, 0, 0);
        due("27: a corner is moved", s.room.shared(0, 4), 1);
    }

    private static void counts() {
        Scene s = new Scene();
        for (int k = 0; k < 6; k++) {
            s.triangle(1, -9, -9, k, 9, -9, k, 0, 9, k);
        }
        s.eye(0, 0, 4);
        s.room.axis(0, 0, 0, -1);
        s.room.size(7, 5);
        s.light(1, 1, 0, 0, 0);
        s.light(3, 255, 0, 0, 0);
        s.light(0, 0, 0, 0, 0);
        s.room.build(1);
        s.room.cross(0, 0);
        s.points(1, 1, 1, 2, 2, 2);
        long[] want = {6, 2, 11, 7, 5, 2, 3, 4};
        for (int k = 0; k < 8; k++) {
            due("28: count(" + k + ")", s.room.count(k), want[k]);
        }
        for (int what : new int[] {-1, 8, MIN, MAX}) {
            due("28: another number", s.room.count(what), BAD);
        }
        s.room.build(8);
        due("28: nodes", s.room.count(2), 1);
        due("28: depth", s.room.count(6), 0);
    }

    private static void constants() {
        due("BAD", RayRoom.BAD, -1);
        due("NONE", RayRoom.NONE, -2);
    }
}
