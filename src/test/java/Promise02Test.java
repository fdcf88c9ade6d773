/** Promise 2: point. */
public final class Promise02Test {
    private static final Check CHECK = new Check("Promise02Test");
    private static final int BAD = RayRoom.BAD;

    public static void main(String[] args) {
        howMany();
        coordinateOutside();
        outsideAmongOthers();
        thereAreThree();
        theFirstThreeStay();
        CHECK.end();
    }

    private static void due(String call, long got, long want) {
        CHECK.due(call, got, want);
    }

    private static void howMany() {
        CHECK.sentence("how many are there");
        Room r = new Room();
        for (int round = 0; round < 2; round++) {
            for (int k = 1; k <= 3; k++) {
                due("point " + k, r.point(k, k, k), k);
                due("count(1)", r.count(1), k);
            }
            r.drop();
        }
        due("after those that are gone", r.point(0, 0, 0), 1);
        r.eye();
        due("after an eye", r.point(0, 0, 0), 1);
        r.light(0, 0);
        due("after a light", r.point(0, 0, 0), 1);
        due("the same place once more", r.point(0, 0, 0), 2);
        r.point(1, 0, 0);
        r.triangle(1);
        due("after none that is a triangle", r.point(0, 0, 0), 1);
    }

    private static int at(Room r, int axis, int v) {
        return r.point(axis == 0 ? v : 0, axis == 1 ? v : 0, axis == 2 ? v : 0);
    }

    private static void coordinateOutside() {
        CHECK.sentence("BAD, changing nothing: a coordinate is outside");
        for (int axis = 0; axis < 3; axis++) {
            final int a = axis;
            for (int v : new int[] {-255, -254, 254, 255}) {
                due("point with " + v + " on axis " + a, at(new Room(), a, v), 1);
            }
            for (int v : Check.outside(-255, 255)) {
                CHECK.refused("point with " + v + " on axis " + a, BAD, Room::filled, r -> at(r, a, v));
            }
        }
        due("point(255, 255, 255)", new Room().point(255, 255, 255), 1);
        due("point(-255, -255, -255)", new Room().point(-255, -255, -255), 1);
    }

    private static void outsideAmongOthers() {
        CHECK.sentence("BAD, changing nothing: a coordinate is outside, with points there");
        for (int v : new int[] {-256, 256}) {
            CHECK.refused("with one there", BAD, () -> Room.filled().collect(1, 2, 3), r -> r.point(0, 0, v));
            CHECK.refused("with two there", BAD, () -> Room.filled().collect(1, 2, 3, 4, 5, 7), r -> r.point(0, v, 0));
            CHECK.refused("with three there", BAD, () -> Room.filled().collect(1, 2, 3, 4, 5, 7, 8, 9, 9),
                r -> r.point(v, 0, 0));
        }
    }

    private static void thereAreThree() {
        CHECK.sentence("BAD, changing nothing: there are three");
        CHECK.refused("a fourth point", BAD, () -> Room.filled().collect(1, 2, 3, 4, 5, 7, 8, 9, 9),
            r -> r.point(-7, -8, -9));
        Room r = new Room().collect(1, 2, 3, 4, 5, 7, 8, 9, 9);
        for (int k = 0; k < 5; k++) {
            due("a fourth point", r.point(0, 0, 0), BAD);
        }
        due("drop()", r.drop(), 3);
        due("then there is place", r.point(0, 0, 0), 1);
    }

    private static void theFirstThreeStay() {
        CHECK.sentence("BAD, changing nothing: the three points are those that were collected first");
        Room r = new Room().collect(-10, -10, -5, 10, -10, -5, 0, 10, -5);
        r.point(0, 0, 100);
        due("triangle(1)", r.triangle(1), 0);
        due("hit", r.hitAlong(0, 0, -1), 0);
        CHECK.dueAll("told", r.allTold(), 0, 5, 1, 0, 0, -5, 1, 1, 1, 2, 4);
    }
}
