/** Promises 1 to 10: what a new object is, and the calls that change it. */
public final class StateTest {
    private static final Check CHECK = new Check("StateTest");
    private static final int MIN = Integer.MIN_VALUE;
    private static final int MAX = Integer.MAX_VALUE;

    public static void main(String[] args) {
        newObject();
        newEyeAndAxes();
        newTable();
        points();
        triangles();
        trianglesThatAreNone();
        mostTriangles();
        moves();
        drops();
        eyes();
        axes();
        axesAtTheEdge();
        sizes();
        lights();
        sets();
        CHECK.end();
    }

    private static void due(String call, long got, long want) {
        CHECK.due(call, got, want);
    }

    private static void newObject() {
        Scene s = new Scene();
        long[] want = {0, 0, 0, 1, 1, 0, 0, 0};
        for (int k = 0; k < 8; k++) {
            due("1: count(" + k + ")", s.room.count(k), want[k]);
        }
        due("1: hit(0, 0)", s.room.hit(0, 0), RayRoom.NONE);
        due("1: told(0)", s.room.told(0), Scene.UNTOLD);
        due("1: refit()", s.room.refit(), RayRoom.BAD);
        due("1: node(0, 0)", s.room.node(0, 0), RayRoom.BAD);
        due("1: order(0)", s.room.order(0), RayRoom.BAD);
        due("1: pixel(0, 0)", s.room.pixel(0, 0), 0);
        due("1: crossing(0)", s.room.crossing(0), RayRoom.BAD);
    }

    private static void newEyeAndAxes() {
        Scene s = new Scene();
        s.triangle(9, 0, 0, 0, 5, 0, 0, 0, 5, 0);
        s.triangle(9, -9, -9, 1, 9, -9, 1, 0, 9, 1);
        s.triangle(9, -9, -9, -1, 9, -9, -1, 0, 9, -1);
        due("1: the eye on a plane through 0 0 0", s.room.facing(0), 0);
        due("1: the eye below z = 1", s.room.facing(1), -1);
        due("1: the eye above z = -1", s.room.facing(2), 1);
        due("1: no axis, no hit", s.room.hit(0, 0), RayRoom.NONE);
        due("1: size(2, 2)", s.room.size(2, 2), 0);
        due("1: axis(0, 0, 0, 1)", s.room.axis(0, 0, 0, 1), 0);
        for (int k = 0; k < 4; k++) {
            due("1: axes 1 and 2 are 0, so all rays are alike", s.room.hit(k & 1, k >> 1), 1);
            CHECK.dueAll("1: told", s.allTold(), 1, 1, 1, 0, 0, 1, 1, 1, 1, 2, 4);
        }
    }

    private static void newTable() {
        RayRoom r = new RayRoom();
        for (int k = 0; k < 16; k++) {
            due("1: the level's value was", r.set(0, k, 1), 17 * k);
            due("1: the level's value is", r.set(0, k, 2), 1);
        }
        due("1: ambient", r.set(1, 0, 3), 0);
        due("1: back", r.set(2, 0, 3), 0);
    }

    private static void points() {
        RayRoom r = new RayRoom();
        int[] outside = {256, -256, 1000, MAX, MIN};
        for (int v : outside) {
            due("2: x outside", r.point(v, 0, 0), RayRoom.BAD);
            due("2: y outside", r.point(0, v, 0), RayRoom.BAD);
            due("2: z outside", r.point(0, 0, v), RayRoom.BAD);
        }
        due("2: none was collected", r.count(1), 0);
        due("2: point(255, 255, 255)", r.point(255, 255, 255), 1);
        due("2: point(-255, -255, -255)", r.point(-255, -255, -255), 2);
        due("2: point outside", r.point(0, 256, 0), RayRoom.BAD);
        due("2: point(0, 0, 0)", r.point(0, 0, 0), 3);
        due("2: a fourth point", r.point(1, 1, 1), RayRoom.BAD);
        due("2: three stay", r.count(1), 3);
    }

    private static void triangles() {
        Scene s = new Scene();
        due("3: no points", s.room.triangle(5), RayRoom.BAD);
        s.room.point(0, 0, 0);
        s.room.point(5, 0, 0);
        due("3: two points", s.room.triangle(5), RayRoom.BAD);
        due("3: two points stay", s.room.count(1), 2);
        s.room.point(0, 5, 0);
        due("3: triangle(0)", s.room.triangle(0), 0);
        due("3: points are gone", s.room.count(1), 0);
        due("3: the second", s.triangle(255, 0, 0, 0, 0, 0, 9, 0, 9, 0), 1);
        due("3: the tone of the first", s.room.set(3, 0, 7), 0);
        due("3: the tone of the second", s.room.set(3, 1, 7), 255);
        s.room.build(1);
        due("3: a tree", s.room.count(2), 3);
        due("3: the third", s.triangle(1, 0, 0, 0, 0, 0, 9, 0, 9, 0), 2);
        due("3: the tree is none", s.room.count(2), 0);
        due("3: no depth either", s.room.count(6), 0);
        due("3: no node", s.room.node(0, 1), RayRoom.BAD);
        due("3: no order", s.room.order(0), RayRoom.BAD);
        due("3: no refit", s.room.refit(), RayRoom.BAD);
        due("3: no meets", s.room.meets(0, 0, 0), RayRoom.BAD);
    }

    private static void trianglesThatAreNone() {
        Scene s = filled();
        int many = s.room.count(0);
        int nodes = s.room.count(2);
        for (int tone : new int[] {-1, 256, MIN, MAX}) {
            due("3: no tone", s.triangle(tone, 0, 0, 0, 5, 0, 0, 0, 5, 0), RayRoom.BAD);
            due("3: the points are gone", s.room.count(1), 0);
        }
        due("3: no tone, on one line", s.triangle(256, 0, 0, 0, 5, 0, 0, 6, 0, 0), RayRoom.BAD);
        due("3: on one line", s.triangle(5, -255, -255, -255, 0, 0, 0, 255, 255, 255), RayRoom.NONE);
        due("3: the points are gone", s.room.count(1), 0);
        due("3: all at one place", s.triangle(5, 3, 3, 3, 3, 3, 3, 3, 3, 3), RayRoom.NONE);
        due("3: two at one place", s.triangle(5, 3, 3, 3, 3, 3, 3, 3, 3, 4), RayRoom.NONE);
        due("3: nearly on one line", s.triangle(5, -255, -255, -255, 0, 0, 1, 255, 255, 255), many);
        Scene t = filled();
        t.triangle(5, -255, -255, -255, 0, 0, 0, 255, 255, 255);
        t.triangle(-1, 0, 0, 0, 5, 0, 0, 0, 5, 0);
        due("3: no triangle more", t.room.count(0), many);
        due("3: the tree stays", t.room.count(2), nodes);
    }

    private static void mostTriangles() {
        Scene s = new Scene();
        for (int k = 0; k < 128; k++) {
            due("3: triangle", s.triangle(k, k, 0, 0, k + 1, 0, 0, k, 1, 0), k);
        }
        due("3: 128 are there", s.triangle(1, 0, 0, 0, 1, 0, 0, 0, 1, 0), RayRoom.BAD);
        due("3: the points are gone", s.room.count(1), 0);
        due("3: 128 are there, on one line", s.triangle(1, 0, 0, 0, 1, 0, 0, 2, 0, 0), RayRoom.BAD);
        due("3: still 128", s.room.count(0), 128);
        due("11: the greatest tree", s.room.build(1), 255);
        due("28: its depth", s.room.count(6), 7);
        full();
    }

    /** 128 triangles above each other, and every call that goes through them. */
    private static void full() {
        Scene s = new Scene();
        for (int k = 0; k < 128; k++) {
            s.triangle(255, -9, -9, -k, 9, -9, -k, 0, 9, -k);
        }
        s.eye(0, 0, 10);
        s.room.axis(0, 0, 0, -1);
        s.light(0, 255, 0, 0, 50);
        due("17: all are crossed", s.room.cross(0, 0), 128);
        due("18: the first", s.room.crossing(0), 0);
        due("18: the last", s.room.crossing(127), 127);
        due("18: no more", s.room.crossing(128), RayRoom.BAD);
        due("15: the first", s.room.hit(0, 0), 0);
        due("21: nothing between", s.room.shadow(0, 0, 0), RayRoom.NONE);
        due("22: bright", s.room.pixel(0, 0), 255);
        due("24: one is seen", s.room.seen(-1), 1);
        s.eye(0, 0, -200);
        s.room.axis(0, 0, 0, 1);
        due("15: the last", s.room.hit(0, 0), 127);
        due("24: the last is seen", s.room.seen(0), 127);
        due("21: the light is behind", s.room.shadow(0, 0, 0), RayRoom.NONE);
        due("11: build(8)", s.room.build(8), 31);
        due("19: all nodes", s.room.meets(0, 0, 0), 31);
        due("19: all triangles", s.room.meets(0, 0, 1), 128);
        due("12: refit()", s.room.refit(), 0);
        due("14: the last", s.room.order(127), 0);
        due("14: no more", s.room.order(128), RayRoom.BAD);
        s.points(0, 0, 0, 0, 0, -127);
        due("26: all are touched", s.room.touched(-1), 128);
        due("26: the last", s.room.touched(127), 127);
        due("27: shared(127, 0)", s.room.shared(127, 0), 0);
        due("27: no triangle 128", s.room.shared(128, 0), RayRoom.BAD);
    }

    /** A room in which every kind of answer is there. */
    private static Scene filled() {
        Scene s = new Scene();
        s.triangle(200, -9, -9, 0, 9, -9, 0, 0, 9, 0);
        s.triangle(120, -2, -2, 3, 2, -2, 3, 0, 2, 3);
        s.triangle(90, -2, -2, 3, 2, -2, 3, 0, 2, 3);
        s.room.size(3, 3);
        s.room.axis(0, 0, 0, -4);
        s.room.axis(1, 1, 0, 0);
        s.room.axis(2, 0, 1, 0);
        s.eye(0, 0, 8);
        s.light(0, 255, 5, 5, 9);
        s.light(1, 100, 1, 1, 1);
        s.room.set(1, 0, 10);
        s.room.set(2, 0, 77);
        s.room.build(1);
        s.room.hit(1, 1);
        s.room.cross(1, 1);
        return s;
    }

    private interface Call {
        long on(RayRoom r);
    }

    /** The call answers so, and nothing that can be asked is another one after it. */
    private static void changesNothing(String call, Scene s, long want, Call made) {
        var before = s.state();
        due(call, made.on(s.room), want);
        CHECK.dueTrue(call + " changes nothing", before.equals(s.state()));
    }

    private static void moves() {
        Scene s = filled();
        s.points(0, 8, 0);
        changesNothing("4: no triangle 3", s, RayRoom.BAD, r -> r.move(3, 0));
        changesNothing("4: no triangle -1", s, RayRoom.BAD, r -> r.move(-1, 0));
        changesNothing("4: no corner 3", s, RayRoom.BAD, r -> r.move(0, 3));
        changesNothing("4: no corner -1", s, RayRoom.BAD, r -> r.move(0, -1));
        changesNothing("4: wild", s, RayRoom.BAD, r -> r.move(MIN, MAX));
        s.points();
        changesNothing("4: no point", s, RayRoom.BAD, r -> r.move(0, 0));
        s.points(0, 8, 0, 1, 1, 1);
        changesNothing("4: two points", s, RayRoom.BAD, r -> r.move(0, 0));
        long[] box = s.allOf(0);
        s.points(0, 100, 0);
        due("4: move(0, 2)", s.room.move(0, 2), 0);
        due("4: the point is gone", s.room.count(1), 0);
        CHECK.dueAll("4: the boxes stay", s.allOf(0), box);
        due("4: the tree stays", s.room.count(2), 5);
        s.points(-50, 9, 0, 50, 9, 0);
        CHECK.dueAll("4: it is where it was moved to", s.allTouched(), 0);
        s.points();
        var before = s.state();
        due("4: on one line", s.move(0, 2, 0, -9, 0), RayRoom.NONE);
        CHECK.dueTrue("4: nothing changes but the point", before.equals(s.state()));
        due("4: back", s.move(0, 2, 0, 9, 0), 0);
        due("4: corner 0", s.move(1, 0, -9, -9, 0), 0);
        due("4: corner 1", s.move(1, 1, 9, -9, 0), 0);
        due("4: two corners are shared", s.room.shared(0, 1), 2);
        due("4: the normal is new too", s.hitAlong(0, 0, -4), 2);
    }

    private static void drops() {
        RayRoom r = new RayRoom();
        for (int n = 0; n < 4; n++) {
            for (int k = 0; k < n; k++) {
                r.point(k, k, k);
            }
            due("5: drop()", r.drop(), n);
            due("5: none is left", r.count(1), 0);
        }
    }

    private static void eyes() {
        Scene s = filled();
        s.points();
        changesNothing("6: no point", s, RayRoom.BAD, r -> r.eye());
        s.points(0, 0, -8, 1, 1, 1);
        changesNothing("6: two points", s, RayRoom.BAD, r -> r.eye());
        s.points(0, 0, -8, 1, 1, 1, 2, 2, 2);
        changesNothing("6: three points", s, RayRoom.BAD, r -> r.eye());
        s.points(0, 0, -8);
        due("6: facing", s.room.facing(0), 1);
        due("6: eye()", s.room.eye(), 0);
        due("6: the point is gone", s.room.count(1), 0);
        due("6: facing", s.room.facing(0), -1);
    }

    private static void axes() {
        Scene s = filled();
        for (int which : new int[] {-1, 3, MIN, MAX}) {
            changesNothing("7: no such axis", s, RayRoom.BAD, r -> r.axis(which, 1, 1, 1));
        }
        changesNothing("7: x outside", s, RayRoom.BAD, r -> r.axis(0, 1024, 0, 0));
        changesNothing("7: y outside", s, RayRoom.BAD, r -> r.axis(1, 0, 600, 0));
        changesNothing("7: z outside", s, RayRoom.BAD, r -> r.axis(2, 0, 0, -600));
        changesNothing("7: wild", s, RayRoom.BAD, r -> r.axis(1, MIN, MAX, MIN));
        changesNothing("7: wild", s, RayRoom.BAD, r -> r.axis(0, MAX, MIN, MAX));
        due("7: axis(0, 0, 0, 4)", s.room.axis(0, 0, 0, 4), 0);
        due("7: it looks away", s.room.hit(1, 1), RayRoom.NONE);
    }

    private static void axesAtTheEdge() {
        Scene s = new Scene();
        due("7: one pixel lets axis 1 be anything", s.room.axis(1, MAX, MIN, 7), 0);
        due("7: and axis 2", s.room.axis(2, MIN, MIN, MIN), 0);
        due("8: but two do not", s.room.size(2, 1), RayRoom.BAD);
        due("8: nor below each other", s.room.size(1, 2), RayRoom.BAD);
        due("7: axis 1", s.room.axis(1, 0, 0, 0), 0);
        due("8: now two are fine", s.room.size(2, 1), 0);
        due("8: not below each other", s.room.size(2, 2), RayRoom.BAD);
        due("7: axis 2", s.room.axis(2, 0, 0, 0), 0);
        due("8: size(32, 32)", s.room.size(32, 32), 0);
        for (int sign = -1; sign <= 1; sign += 2) {
            due("7: 31 * 33 = 1023", s.room.axis(1, 0, 33 * sign, 0), 0);
            due("7: 31 * 34 is above", s.room.axis(1, 0, 34 * sign, 0), RayRoom.BAD);
            due("7: no place is left", s.room.axis(0, 0, sign, 0), RayRoom.BAD);
            due("7: nor for axis 2", s.room.axis(2, 0, sign, 0), RayRoom.BAD);
            due("7: but elsewhere", s.room.axis(0, 1023 * sign, 0, -1023 * sign), 0);
            due("7: not further", s.room.axis(0, 1024 * sign, 0, 0), RayRoom.BAD);
            due("7: not further", s.room.axis(0, 0, 0, -1024 * sign), RayRoom.BAD);
        }
    }

    private static void sizes() {
        Scene s = filled();
        int[] wrong = {0, -1, 33, MIN, MAX};
        for (int v : wrong) {
            changesNothing("8: no width", s, RayRoom.BAD, r -> r.size(v, 1));
            changesNothing("8: no height", s, RayRoom.BAD, r -> r.size(1, v));
        }
        due("8: size(5, 2)", s.room.size(5, 2), 0);
        due("8: W", s.room.count(3), 5);
        due("8: H", s.room.count(4), 2);
        due("8: the last pixel", s.room.pixel(4, 1) == RayRoom.BAD ? 1 : 0, 0);
        due("8: beyond", s.room.pixel(5, 1), RayRoom.BAD);
        due("8: beyond", s.room.pixel(4, 2), RayRoom.BAD);
        due("7: 1000 with 4 * 5 is 1020", s.room.axis(0, 1000, 0, 0), 0);
        due("7: axis(1, 5, 0, 0)", s.room.axis(1, 5, 0, 0), 0);
        changesNothing("8: 1000 and 5 * 5 is above", s, RayRoom.BAD, r -> r.size(6, 2));
        due("8: size(32, 32) of one", new RayRoom().size(32, 32), 0);
    }

    private static void lights() {
        Scene s = filled();
        s.points(1, 2, 3);
        for (int which : new int[] {-1, 4, MIN, MAX}) {
            changesNothing("9: no such light", s, RayRoom.BAD, r -> r.light(which, 1));
        }
        for (int strength : new int[] {-1, 256, MIN, MAX}) {
            changesNothing("9: no such strength", s, RayRoom.BAD, r -> r.light(0, strength));
        }
        s.points();
        changesNothing("9: no point", s, RayRoom.BAD, r -> r.light(0, 1));
        s.points(1, 2, 3, 4, 5, 6);
        changesNothing("9: two points", s, RayRoom.BAD, r -> r.light(0, 1));
        s.points(1, 2, 3);
        due("9: light(3, 255)", s.room.light(3, 255), 0);
        due("9: the point is gone", s.room.count(1), 0);
        due("9: three lights", s.room.count(5), 3);
        due("9: out", s.light(3, 0, 1, 2, 3), 0);
        due("9: two lights", s.room.count(5), 2);
    }

    private static void sets() {
        Scene s = filled();
        for (int v : new int[] {-1, 256, MIN, MAX}) {
            for (int what = 0; what < 4; what++) {
                final int w = what;
                changesNothing("10: no value", s, RayRoom.BAD, r -> r.set(w, 0, v));
            }
        }
        for (int what : new int[] {-1, 4, MIN, MAX}) {
            changesNothing("10: none such", s, RayRoom.BAD, r -> r.set(what, 0, 1));
        }
        for (int i : new int[] {-1, 16, MIN, MAX}) {
            changesNothing("10: no such level", s, RayRoom.BAD, r -> r.set(0, i, 1));
        }
        for (int i : new int[] {-1, 3, MIN, MAX}) {
            changesNothing("10: no such triangle", s, RayRoom.BAD, r -> r.set(3, i, 1));
        }
        due("10: a level", s.room.set(0, 15, 0), 255);
        due("10: was", s.room.set(0, 15, 9), 0);
        due("10: ambient, i is free", s.room.set(1, MIN, 255), 10);
        due("10: was", s.room.set(1, MAX, 1), 255);
        due("10: back, i is free", s.room.set(2, MIN, 255), 77);
        due("10: was", s.room.set(2, 99, 1), 255);
        due("10: a tone", s.room.set(3, 1, 255), 120);
        due("10: was", s.room.set(3, 1, 0), 255);
        due("10: the tree stays", s.room.count(2), 5);
    }
}
