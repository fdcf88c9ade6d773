/** Promise 15: hit. */
public final class Promise15Test {
    private static final Check CHECK = new Check("Promise15Test");
    private static final int BAD = RayRoom.BAD;
    private static final int NONE = RayRoom.NONE;

    public static void main(String[] args) {
        rayOfEachPixel();
        noSuchPixel();
        nothing();
        noTriangles();
        tAboveZero();
        alongThePlane();
        noDirection();
        edgesAndCorners();
        hardlyOutside();
        ofSeveralTheLesser();
        asManyAsMayBe();
        acrossTheRoom();
        CHECK.end();
    }

    private static void due(String call, long got, long want) {
        CHECK.due(call, got, want);
    }

    private static Room wall() {
        Room r = new Room();
        r.put(1, -10, -10, 0, 10, -10, 0, 0, 10, 0);
        r.eyeAt(0, 0, 10);
        return r;
    }

    /** One triangle for each pixel of 3 by 2, around the place that its ray comes to. */
    private static void rayOfEachPixel() {
        CHECK.sentence("What the ray of a pixel hits first, which is at hand then: a triangle");
        Room r = new Room();
        for (int y = 0; y < 2; y++) {
            for (int x = 0; x < 3; x++) {
                int cx = 10 * (2 * x - 2);
                int cy = 10 * (1 - 2 * y);
                r.put(1, cx - 2, cy - 2, 0, cx + 2, cy - 2, 0, cx, cy + 2, 0);
            }
        }
        r.eyeAt(0, 0, 10);
        r.size(3, 2);
        r.axis(0, 0, 0, -10);
        r.axis(1, 10, 0, 0);
        r.axis(2, 0, 10, 0);
        for (int k = 0; k < 6; k++) {
            due("hit(" + k % 3 + ", " + k / 3 + ")", r.hit(k % 3, k / 3), k);
            due("told(0)", r.told(0), k);
        }
    }

    private static void noSuchPixel() {
        CHECK.sentence("BAD, changing nothing: no such pixel");
        for (int x : Check.outside(0, 2)) {
            CHECK.refused("hit(" + x + ", 1)", BAD, Room::filled, r -> r.hit(x, 1));
        }
        for (int y : Check.outside(0, 1)) {
            CHECK.refused("hit(1, " + y + ")", BAD, Room::filled, r -> r.hit(1, y));
            CHECK.refused("hit(" + y + ", " + y + ")", BAD, Room::filled, r -> r.hit(-1, y));
        }
        due("hit(0, 1)", Room.filled().hit(0, 1), 0);
        due("hit(2, 1)", Room.filled().hit(2, 1), 0);
        due("hit(1, 0)", Room.filled().hit(1, 0), 1);
        Room r = new Room();
        r.size(32, 32);
        due("hit(31, 31)", r.hit(31, 31), NONE);
        due("hit(32, 31)", r.hit(32, 31), BAD);
        due("hit(31, 32)", r.hit(31, 32), BAD);
    }

    private static void nothing() {
        CHECK.sentence("NONE: nothing (and nothing is at hand)");
        Room r = Room.filled();
        due("told(0) before", r.told(0), 1);
        due("hit(0, 0)", r.hit(0, 0), NONE);
        for (int what = 0; what <= 10; what++) {
            due("told(" + what + ")", r.told(what), Room.UNTOLD);
        }
        due("crossings stay", r.count(7), 3);
        due("hit(1, 1)", r.hit(1, 1), 1);
        due("told(0)", r.told(0), 1);
    }

    private static void noTriangles() {
        CHECK.sentence("NONE: nothing (there are no triangles)");
        Room r = new Room();
        due("hit(0, 0)", r.hit(0, 0), NONE);
        due("hit along something", r.hitAlong(1, 2, 3), NONE);
        due("told(0)", r.told(0), Room.UNTOLD);
    }

    private static void tAboveZero() {
        CHECK.sentence("A ray HITS a triangle, if t is above 0");
        Room r = wall();
        due("before the eye", r.hitAlong(0, 0, -1), 0);
        due("behind the eye", r.hitAlong(0, 0, 1), NONE);
        r.eyeAt(0, 0, 1);
        due("one step before", r.hitAlong(0, 0, -1023), 0);
        due("told t", r.told(2), 1023);
        r.eyeAt(0, 0, 0);
        due("t is 0, downwards", r.hitAlong(0, 0, -1), NONE);
        due("t is 0, upwards", r.hitAlong(0, 0, 1), NONE);
        due("t is 0, aslant", r.hitAlong(1, 0, 1), NONE);
        r.eyeAt(10, -10, 0);
        due("t is 0 at a corner", r.hitAlong(-1, 1, -1), NONE);
        r.eyeAt(0, 0, -1);
        due("from below, one step before", r.hitAlong(0, 0, 1023), 0);
        due("from below, behind", r.hitAlong(0, 0, -1), NONE);
    }

    private static void alongThePlane() {
        CHECK.sentence("A ray HITS a triangle, if D . N is not 0");
        Room r = wall();
        due("above the plane", r.hitAlong(1, 1, 0), NONE);
        due("nearly along it", r.hitAlong(1023, 0, -1), NONE);
        r.eyeAt(0, 0, 0);
        due("in the plane, inside", r.hitAlong(1, 0, 0), NONE);
        r.eyeAt(-50, 0, 0);
        due("in the plane, towards it", r.hitAlong(1, 0, 0), NONE);
        r.eyeAt(-255, 0, 1);
        due("nearly in the plane", r.hitAlong(255, 0, -1), 0);
        due("nearly in the plane, beyond", r.hitAlong(266, 0, -1), NONE);
    }

    private static void noDirection() {
        CHECK.sentence("(A D of 0 0 0 meets nothing.)");
        Room r = wall();
        due("before a triangle", r.hitAlong(0, 0, 0), NONE);
        r.eyeAt(0, 0, 0);
        due("in a triangle", r.hitAlong(0, 0, 0), NONE);
        due("told(0)", r.told(0), Room.UNTOLD);
    }

    private static void edgesAndCorners() {
        CHECK.sentence("belongs to the triangle (edges and corners too)");
        Room r = wall();
        int[][] on = {{-10, -10, -10}, {10, -10, -10}, {0, 10, -10}, {0, -10, -10}, {5, 0, -10}, {-5, 0, -10},
            {499, 0, -1000}, {-499, 0, -1000}, {0, 999, -1000}, {0, -999, -1000}};
        int[][] off = {{501, 0, -1000}, {-501, 0, -1000}, {0, 1001, -1000}, {0, -1001, -1000}, {11, -10, -10},
            {-11, -10, -10}, {10, -11, -10}, {-10, -11, -10}, {1, 10, -10}, {-1, 10, -10}, {6, 0, -10}, {-6, 0, -10}};
        for (int[] d : on) {
            due("along " + java.util.Arrays.toString(d), r.hitAlong(d[0], d[1], d[2]), 0);
        }
        for (int[] d : off) {
            due("along " + java.util.Arrays.toString(d), r.hitAlong(d[0], d[1], d[2]), NONE);
        }
        Room turned = new Room();
        turned.put(1, 0, 10, 0, 10, -10, 0, -10, -10, 0);
        turned.eyeAt(0, 0, 10);
        for (int[] d : on) {
            due("N away, along " + java.util.Arrays.toString(d), turned.hitAlong(d[0], d[1], d[2]), 0);
        }
        for (int[] d : off) {
            due("N away, along " + java.util.Arrays.toString(d), turned.hitAlong(d[0], d[1], d[2]), NONE);
        }
    }

    private static void hardlyOutside() {
        CHECK.sentence("belongs to the triangle (by a thousandth of its edges)");
        for (int turned = 0; turned < 2; turned++) {
            Room r = new Room();
            r.put(1, 0, 0, 0, 1 - turned, turned, 0, turned, 1 - turned, 0);
            r.eyeAt(0, 0, 1);
            int[][] on = {{0, 0}, {1000, 0}, {0, 1000}, {500, 0}, {0, 500}, {500, 500}, {1, 1}, {998, 1}, {1, 998}};
            int[][] off = {{-1, 0}, {0, -1}, {-1, 500}, {500, -1}, {501, 500}, {500, 501}, {1001, 0}, {0, 1001},
                {1000, 1}, {1, 1000}, {-1, 1000}, {1000, -1}, {-1, -1}};
            for (int[] d : on) {
                due("along " + d[0] + " " + d[1] + " -1000", r.hitAlong(d[0], d[1], -1000), 0);
            }
            for (int[] d : off) {
                due("along " + d[0] + " " + d[1] + " -1000", r.hitAlong(d[0], d[1], -1000), NONE);
            }
        }
    }

    private static void ofSeveralTheLesser() {
        CHECK.sentence("What it hits FIRST has the least t; of several the lesser number");
        Room r = wall();
        r.put(1, 10, -10, 0, -10, -10, 0, 0, 10, 0);
        due("of two at one place", r.hitAlong(0, 0, -1), 0);
        r.put(1, -10, -10, 1, 10, -10, 1, 0, 10, 1);
        r.put(1, -10, -10, 1, 10, -10, 1, 0, 10, 1);
        due("the least t", r.hitAlong(0, 0, -1), 2);
        r.eyeAt(0, 0, -10);
        due("from below", r.hitAlong(0, 0, 1), 0);
        r.put(1, -10, -10, -1, 10, -10, -1, 0, 10, 0);
        due("a leaning one has less", r.hitAlong(0, 0, 1), 4);
        due("and as much at its corner", r.hitAlong(0, 10, 10), 0);
        due("and hardly less near it", r.hitAlong(0, 1021, 1023), 4);
    }

    private static void asManyAsMayBe() {
        CHECK.sentence("hits first (of as many triangles as may be)");
        Room r = Room.pile(127);
        due("from above", r.hitAlong(0, 0, -1), 0);
        Room s = Room.pile(126);
        s.eyeAt(0, 0, -200);
        due("from below", s.hitAlong(0, 0, 1), 125);
        Room all = Room.pile(128).beyondAllCalls();
        due("128 from above", all.hitAlong(0, 0, -1), 0);
        all.eyeAt(0, 0, -200);
        due("128 from below", all.hitAlong(0, 0, 1), 127);
    }

    private static void acrossTheRoom() {
        CHECK.sentence("What the ray hits (from one end of the room to the other)");
        Room r = new Room();
        r.put(1, -255, -255, -255, 255, -255, -255, -255, 255, -255);
        r.eyeAt(255, 255, 255);
        due("to corner A", r.hitAlong(-1023, -1023, -1023), 0);
        CHECK.dueAll("told", r.allTold(), 0, 170, 341, -255, -255, -255, 1, 1, 0, 0, 1);
        due("beside it in x", r.hitAlong(-1023, -1022, -1022), NONE);
        due("beside it in y", r.hitAlong(-1022, -1023, -1022), NONE);
        due("within it", r.hitAlong(-1022, -1022, -1023), 0);
        r.eyeAt(-255, 255, 255);
        due("to an edge", r.hitAlong(0, -1023, -1023), 0);
        due("beside it", r.hitAlong(-1, -1023, -1023), NONE);
    }
}
