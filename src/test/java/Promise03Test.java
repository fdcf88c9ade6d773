/** Promise 3: triangle. */
public final class Promise03Test {
    private static final Check CHECK = new Check("Promise03Test");
    private static final int BAD = RayRoom.BAD;
    private static final int NONE = RayRoom.NONE;

    public static void main(String[] args) {
        whichOne();
        theCornersInOrder();
        theTreeIsNone();
        asManyAsMayBe();
        thereAre128();
        notThreePoints();
        noTone();
        onOneLine();
        nearlyOnOneLine();
        theTreeStays();
        CHECK.end();
    }

    private static void due(String call, long got, long want) {
        CHECK.due(call, got, want);
    }

    private static Room withThree() {
        return Room.filled().collect(0, 0, 0, 5, 0, 0, 0, 5, 1);
    }

    private static Room withLine() {
        return Room.filled().collect(-3, -2, -1, 0, 0, 0, 6, 4, 2);
    }

    private static void whichOne() {
        CHECK.sentence("which are gone then, are one more triangle with a tone: which one");
        Room r = new Room();
        for (int k = 0; k < 3; k++) {
            due("triangle", r.put(k, 0, 0, k, 5, 0, k, 0, 5, k), k);
            due("points that are left", r.count(1), 0);
            due("triangles", r.count(0), k + 1);
        }
        for (int k = 0; k < 3; k++) {
            due("the tone of " + k, r.set(3, k, 9), k);
        }
        due("a triangle at the place of another", r.put(1, 0, 0, 0, 5, 0, 0, 0, 5, 0), 3);
    }

    private static void theCornersInOrder() {
        CHECK.sentence("The three points that were collected are A, B, C");
        Room r = new Room();
        r.put(1, -10, -10, -5, 10, -10, -5, 0, 10, -5);
        r.hitAlong(-10, -10, -5);
        CHECK.dueAll("A", r.allTold(), 0, 1, 1, -10, -10, -5, 1, 1, 0, 0, 1);
        r.hitAlong(10, -10, -5);
        CHECK.dueAll("B", r.allTold(), 0, 1, 1, 10, -10, -5, 1, 0, 1, 0, 1);
        r.hitAlong(0, 10, -5);
        CHECK.dueAll("C", r.allTold(), 0, 1, 1, 0, 10, -5, 1, 0, 0, 1, 1);
    }

    private static void theTreeIsNone() {
        CHECK.sentence("the tree is none");
        Room r = Room.filled();
        due("nodes before", r.count(2), 5);
        due("depth before", r.count(6), 2);
        due("triangle", r.put(1, 0, 0, 0, 5, 0, 0, 0, 5, 1), 3);
        due("nodes", r.count(2), 0);
        due("depth", r.count(6), 0);
        due("node(0, 0)", r.node(0, 0), BAD);
        due("order(0)", r.order(0), BAD);
        due("refit()", r.refit(), BAD);
        due("meets(1, 1, 0)", r.meets(1, 1, 0), BAD);
        due("told(0) stays", r.told(0), 1);
        due("crossings stay", r.count(7), 3);
    }

    private static void asManyAsMayBe() {
        CHECK.sentence("at most 128: the 512th call makes the last one");
        Room r = new Room();
        for (int k = 0; k < 128; k++) {
            due("triangle", r.put(k, k, 0, 0, k + 1, 0, 0, k, 1, 0), k);
        }
        Room s = Room.pile(127);
        due("127 of them", s.count(0), 127);
        due("the tone of the last", s.set(3, 126, 1), 255);
        due("none after it", s.set(3, 127, 1), BAD);
    }

    private static void thereAre128() {
        CHECK.sentence("BAD: there are 128 (points are gone)");
        Room r = Room.pile(128).beyondAllCalls();
        r.build(8);
        for (int[] corners : new int[][] {{0, 0, 0, 1, 0, 0, 0, 1, 0}, {0, 0, 0, 1, 0, 0, 2, 0, 0}}) {
            due("one more", r.put(1, corners), BAD);
            due("points that are left", r.count(1), 0);
        }
        due("triangles", r.count(0), 128);
        due("the tree stays", r.count(2), 31);
    }

    private static void notThreePoints() {
        CHECK.sentence("BAD: not three points (they are not gone)");
        CHECK.refused("no point", BAD, Room::filled, r -> r.triangle(5));
        CHECK.refused("one point", BAD, () -> Room.filled().collect(1, 2, 3), r -> r.triangle(5));
        CHECK.refused("two points", BAD, () -> Room.filled().collect(1, 2, 3, 4, 5, 7), r -> r.triangle(5));
        CHECK.refused("two points, no tone", BAD, () -> Room.filled().collect(1, 2, 3, 4, 5, 7), r -> r.triangle(-1));
        due("no point in a new object", new Room().triangle(5), BAD);
        Room r = new Room().collect(-10, -10, -5, 10, -10, -5);
        r.triangle(1);
        r.point(0, 10, -5);
        due("with a third point", r.triangle(1), 0);
        r.hitAlong(-10, -10, -5);
        CHECK.dueAll("the first point is A", r.allTold(), 0, 1, 1, -10, -10, -5, 1, 1, 0, 0, 1);
    }

    private static void noTone() {
        CHECK.sentence("BAD: no tone (points are gone)");
        for (int tone : Check.outside(0, 255)) {
            CHECK.changesLike("triangle(" + tone + ")", BAD, Promise03Test::withThree, r -> r.triangle(tone), Room::drop);
        }
        for (int tone : new int[] {0, 1, 254, 255}) {
            Room r = withThree();
            due("triangle(" + tone + ")", r.triangle(tone), 3);
            due("its tone", r.set(3, 3, 9), tone);
        }
    }

    private static void onOneLine() {
        CHECK.sentence("NONE: they lie on one line (points are gone)");
        CHECK.changesLike("on one line", NONE, Promise03Test::withLine, r -> r.triangle(5), Room::drop);
        int[][] lines = {
            {3, 3, 3, 3, 3, 3, 3, 3, 3}, {3, 3, 3, 3, 3, 3, 3, 3, 4}, {3, 3, 4, 3, 3, 3, 3, 3, 3},
            {3, 3, 3, 3, 3, 4, 3, 3, 3}, {0, 0, 0, 1, 0, 0, 2, 0, 0}, {0, 0, 0, 0, 9, 0, 0, 2, 0},
            {0, 0, 5, 0, 0, 0, 0, 0, -255}, {-255, -255, -255, 0, 0, 0, 255, 255, 255},
            {-255, 255, -255, 255, -255, 255, 0, 0, 0}, {255, 0, 0, 0, 255, 0, 254, 1, 0},
            {1, 2, 3, 3, 6, 9, 2, 4, 6}, {-255, 255, 7, 255, -255, 7, 254, -254, 7}};
        for (int[] line : lines) {
            Room r = new Room();
            due("triangle on one line", r.put(0, line), NONE);
            due("points that are left", r.count(1), 0);
            due("triangles", r.count(0), 0);
        }
    }

    private static void nearlyOnOneLine() {
        CHECK.sentence("NONE: they lie on one line (but these do not)");
        int[][] corners = {
            {-255, -255, -255, 0, 0, 1, 255, 255, 255}, {-255, -255, -255, 0, 1, 0, 255, 255, 255},
            {-255, -255, -255, 1, 0, 0, 255, 255, 255}, {-255, -255, -255, 254, 254, 255, 255, 255, 255},
            {0, 0, 0, 1, 0, 0, 2, 1, 0}, {0, 0, 0, 0, 1, 0, 0, 2, 1}, {0, 0, 0, 0, 0, 1, 1, 0, 2},
            {255, 255, 255, -255, 255, 255, 254, 254, 255}, {-255, 0, 0, 0, 0, 0, 255, 0, 1}};
        for (int[] c : corners) {
            due("triangle nearly on one line", new Room().put(0, c), 0);
        }
    }

    private static void theTreeStays() {
        CHECK.sentence("the tree is none (but not when no triangle is made)");
        Room r = withThree();
        r.triangle(256);
        due("no tone", r.count(2), 5);
        r.put(5, 1, 1, 1, 2, 2, 2, 3, 3, 3);
        due("on one line", r.count(2), 5);
        r.triangle(5);
        due("no points", r.count(2), 5);
        due("refit()", r.refit(), 0);
    }
}
