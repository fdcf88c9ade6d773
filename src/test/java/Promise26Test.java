import java.util.Arrays;

/** Promise 26: touched. */
public final class Promise26Test {
    private static final Check CHECK = new Check("Promise26Test");
    private static final int BAD = RayRoom.BAD;

    public static void main(String[] args) {
        byNumber();
        theyStay();
        theFirstTwo();
        somePlaceInCommon();
        itsSidesBelongToIt();
        pastEdges();
        flatBoxes();
        manySmallOnes();
        theWholeRoom();
        none();
        asManyAsMayBe();
        noneSuch();
        fewerThanTwo();
        CHECK.end();
    }

    private static void due(String call, long got, long want) {
        CHECK.due(call, got, want);
    }

    private static Room tenBeside() {
        int[] xs = new int[10];
        for (int k = 0; k < 10; k++) {
            xs[k] = 4 * k;
        }
        return Room.row(xs);
    }

    private static void byNumber() {
        CHECK.sentence("the k-th triangle, by number, that has some place in common with it; k = - 1: how many");
        Room r = tenBeside().collect(9, -1, -1, 20, 1, 1);
        due("touched(-1)", r.touched(-1), 4);
        CHECK.dueAll("all", r.allTouched(), 2, 3, 4, 5);
        r.drop();
        r.moveTo(4, 0, 16, 50, 0);
        r.moveTo(4, 1, 17, 50, 0);
        r.moveTo(4, 2, 17, 51, 0);
        r.collect(20, 1, 1, 9, -1, -1);
        CHECK.dueAll("but 4", r.allTouched(), 2, 3, 5);
    }

    private static void theyStay() {
        CHECK.sentence("(they stay)");
        CHECK.refused("touched(-1) with two", 3, () -> Room.filled().collect(-9, -9, -9, 9, 9, 9), r -> r.touched(-1));
        CHECK.refused("touched(0) with three", 1, () -> Room.filled().collect(-9, -9, 1, 9, 9, 9, 5, 6, 8),
            r -> r.touched(0));
        Room r = tenBeside().collect(9, -1, -1, 20, 1, 1);
        due("touched(0)", r.touched(0), 2);
        due("points", r.count(1), 2);
        due("one more point", r.point(0, 0, 0), 3);
    }

    private static void theFirstTwo() {
        CHECK.sentence("The first two points that were collected");
        Room r = tenBeside().collect(9, -1, -1, 20, 1, 1, -200, -200, -200);
        CHECK.dueAll("of three", r.allTouched(), 2, 3, 4, 5);
    }

    /** The same question from each corner of the box, and with all coordinates in another order. */
    private static void dueTouch(boolean want, int[] box, int... corners) {
        int[][] turns = {{0, 1, 2}, {1, 2, 0}, {2, 1, 0}};
        for (int[] turn : turns) {
            int[] b = turned(box, turn);
            int[] c = turned(corners, turn);
            String call = Arrays.toString(b) + " and " + Arrays.toString(c);
            for (int k = 0; k < 8; k++) {
                Room r = new Room();
                r.put(1, c);
                int x = (k & 1) * 3;
                int y = (k >> 1 & 1) * 3;
                int z = (k >> 2 & 1) * 3;
                r.collect(b[x], b[1 + y], b[2 + z], b[3 - x], b[4 - y], b[5 - z]);
                due(call, r.touched(-1), want ? 1 : 0);
                due(call, r.touched(0), want ? 0 : BAD);
            }
        }
    }

    private static int[] turned(int[] c, int[] turn) {
        int[] out = new int[c.length];
        for (int k = 0; k < c.length; k++) {
            out[k] = c[k / 3 * 3 + turn[k % 3]];
        }
        return out;
    }

    private static int[] box(int... six) {
        return six;
    }

    private static void somePlaceInCommon() {
        CHECK.sentence("corners of a box across from each other: has some place in common with it");
        int[] cube = box(0, 0, 0, 2, 2, 2);
        dueTouch(true, box(-9, -9, -9, 9, 9, 9), 0, 0, 0, 1, 0, 0, 0, 1, 0);
        dueTouch(true, cube, -50, -50, 1, 50, -50, 1, 0, 90, 1);
        dueTouch(true, cube, -50, 1, 1, 50, 1, 1, 50, 60, 60);
        dueTouch(false, cube, 3, -9, 1, 9, -9, 1, 9, 9, 1);
        dueTouch(false, cube, -1, 4, 1, 4, 9, 1, -1, 9, 1);
    }

    private static void itsSidesBelongToIt() {
        CHECK.sentence("(its sides belong to it)");
        int[] cube = box(0, 0, 0, 2, 2, 2);
        dueTouch(true, cube, -50, -50, 2, 50, -50, 2, 0, 90, 2);
        dueTouch(false, cube, -50, -50, 3, 50, -50, 3, 0, 90, 3);
        dueTouch(true, cube, -50, -50, 0, 50, -50, 0, 0, 90, 0);
        dueTouch(false, cube, -50, -50, -1, 50, -50, -1, 0, 90, -1);
        dueTouch(true, cube, 2, 2, 2, 5, 5, 5, 6, 5, 5);
        dueTouch(false, cube, 3, 2, 2, 5, 5, 5, 6, 5, 5);
        dueTouch(true, cube, 0, 0, 0, -5, -5, -5, -6, -5, -5);
        dueTouch(false, cube, 0, -1, 0, -5, -5, -5, -6, -5, -5);
        dueTouch(true, cube, 2, 1, 1, 9, 1, 1, 9, 2, 1);
        dueTouch(true, cube, 2, -5, 2, 2, 9, 2, 9, 1, 9);
    }

    private static void pastEdges() {
        CHECK.sentence("some place in common (where only an edge or a plane goes past the box)");
        int[] cube = box(0, 0, 0, 2, 2, 2);
        dueTouch(true, cube, 5, -1, 1, -1, 5, 1, 6, 6, 1);
        dueTouch(false, cube, 6, -1, 1, -1, 6, 1, 6, 6, 1);
        dueTouch(true, cube, -3, 3, 1, 3, -3, 1, -6, -6, 1);
        dueTouch(false, cube, -4, 3, 1, 3, -4, 1, -6, -6, 1);
        // The plane x + y + z = 6 goes through a corner, 7 does not.
        dueTouch(true, cube, 6, 0, 0, 0, 6, 0, 0, 0, 6);
        dueTouch(false, cube, 7, 0, 0, 0, 7, 0, 0, 0, 7);
        dueTouch(true, cube, 9, -9, 0, -9, 9, 0, 0, 0, -9);
        dueTouch(false, cube, 9, -10, 0, -10, 9, 0, 0, -1, -9);
    }

    private static void flatBoxes() {
        CHECK.sentence("corners of a box (that has no width)");
        dueTouch(true, box(0, 0, 0, 0, 0, 0), -1, -1, 0, 1, -1, 0, 0, 1, 0);
        dueTouch(true, box(1, -1, 0, 1, -1, 0), -1, -1, 0, 1, -1, 0, 0, 1, 0);
        dueTouch(true, box(0, 0, 0, 0, 0, 0), 5, -5, 0, -5, 5, 0, 9, 9, 0);
        dueTouch(false, box(0, 0, 0, 0, 0, 0), 6, -5, 0, -5, 6, 0, 9, 9, 0);
        dueTouch(false, box(0, 0, 1, 0, 0, 1), -1, -1, 0, 1, -1, 0, 0, 1, 0);
        dueTouch(true, box(0, 0, -5, 0, 0, 5), -1, -1, 0, 1, -1, 0, 0, 1, 0);
        dueTouch(false, box(1, 0, -5, 1, 0, 5), -1, -1, 0, 1, -1, 0, 0, 1, 0);
        dueTouch(true, box(-5, 0, 0, 5, 0, 0), -1, -1, 0, 1, -1, 0, 0, 1, 0);
        dueTouch(false, box(-5, 2, 0, 5, 2, 0), -1, -1, 0, 1, -1, 0, 0, 1, 0);
        dueTouch(true, box(-5, -5, 0, 5, 5, 0), 0, 0, -1, 1, 0, 1, 0, 1, 1);
        dueTouch(false, box(-5, -5, 0, 5, 5, 0), 0, 0, 1, 1, 0, 2, 0, 1, 2);
        dueTouch(false, box(-5, -5, 0, 0, 0, 0), 1, -9, 0, 9, -9, 0, 9, 9, 0);
    }

    /** Small boxes and triangles of every kind, with the answer of the model, which cuts the triangle by the box. */
    private static void manySmallOnes() {
        CHECK.sentence("the k-th triangle, by number, that has some place in common with it (whatever they look like)");
        java.util.Random random = new java.util.Random(26);
        for (int round = 0; round < 400; round++) {
            Room r = new Room();
            Model model = new Model();
            int reach = 2 + round % 5;
            for (int k = 0; k < 9; k++) {
                int[] c = random.ints(9, -reach, reach + 1).toArray();
                r.put(1, c);
                model.put(1, c);
            }
            for (int k = 0; k < 12; k++) {
                int[] b = random.ints(6, -2, 3).toArray();
                r.drop();
                r.collect(b);
                model.drop();
                model.collect(b);
                String call = "touched in round " + round + " by " + Arrays.toString(b);
                due(call, r.touched(-1), model.touched(-1));
                due(call, r.touched(1), model.touched(1));
            }
        }
    }

    private static void theWholeRoom() {
        CHECK.sentence("corners of a box (from one end of the room to the other)");
        dueTouch(true, box(-255, -255, -255, 255, 255, 255), -255, 255, 255, 255, -255, 255, 255, 255, -255);
        dueTouch(true, box(-255, -255, -255, -255, -255, -255),
            -255, -255, -255, 255, -255, 255, 255, 255, -255);
        dueTouch(false, box(-255, -255, -255, -255, -255, -254),
            -254, -255, -255, 255, -255, 255, 255, 255, -255);
        dueTouch(true, box(255, 255, 255, 85, 85, 85), 255, 0, 0, 0, 255, 0, 0, 0, 255);
        dueTouch(false, box(255, 255, 255, 85, 85, 86), 255, 0, 0, 0, 255, 0, 0, 0, 255);
    }

    private static void none() {
        CHECK.sentence("how many (none)");
        Room r = new Room().collect(0, 0, 0, 0, 0, 0);
        due("touched(-1) without triangles", r.touched(-1), 0);
        due("touched(0) without triangles", r.touched(0), BAD);
        Room s = tenBeside().collect(0, 2, 0, 255, 255, 255);
        due("touched(-1) beside all", s.touched(-1), 0);
        due("touched(0) beside all", s.touched(0), BAD);
    }

    private static void asManyAsMayBe() {
        CHECK.sentence("how many (as many as may be)");
        Room r = Room.pile(126).collect(0, 0, 0, 0, 0, -255);
        due("touched(-1)", r.touched(-1), 126);
        due("touched(0)", r.touched(0), 0);
        due("touched(125)", r.touched(125), 125);
        due("touched(126)", r.touched(126), BAD);
        Room all = Room.pile(128).beyondAllCalls().collect(0, 0, 0, 0, 0, -255);
        due("touched(-1) of 128", all.touched(-1), 128);
        due("touched(127) of 128", all.touched(127), 127);
        due("touched(128) of 128", all.touched(128), BAD);
    }

    private static Room twoOfThree() {
        return Room.filled().collect(-9, -9, 3, 9, 9, 3);
    }

    private static void noneSuch() {
        CHECK.sentence("BAD: none such");
        for (int k : Check.outside(-1, 1)) {
            CHECK.refused("touched(" + k + ")", BAD, Promise26Test::twoOfThree, r -> r.touched(k));
        }
        CHECK.refused("touched(-1)", 2, Promise26Test::twoOfThree, r -> r.touched(-1));
        CHECK.refused("touched(0)", 1, Promise26Test::twoOfThree, r -> r.touched(0));
        CHECK.refused("touched(1)", 2, Promise26Test::twoOfThree, r -> r.touched(1));
    }

    private static void fewerThanTwo() {
        CHECK.sentence("BAD: fewer than two points");
        for (int k = -2; k <= 1; k++) {
            final int n = k;
            CHECK.refused("no point: touched(" + n + ")", BAD, Room::filled, r -> r.touched(n));
            CHECK.refused("one point: touched(" + n + ")", BAD, () -> Room.filled().collect(0, 0, 0), r -> r.touched(n));
        }
        Room r = Room.filled().collect(0, 0, 0, 0, 0, 0);
        due("two points", r.touched(-1), 1);
        r.drop();
        due("two that are gone", r.touched(-1), BAD);
        due("in a new object", new Room().touched(-1), BAD);
    }
}
