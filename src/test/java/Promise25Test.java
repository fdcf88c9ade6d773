/** Promise 25: facing. */
public final class Promise25Test {
    private static final Check CHECK = new Check("Promise25Test");

    public static void main(String[] args) {
        whichSide();
        onIt();
        eachAxis();
        greatNumbers();
        noneSuch();
        CHECK.end();
    }

    private static void due(String call, long got, long want) {
        CHECK.due(call, got, want);
    }

    private static void whichSide() {
        CHECK.sentence("1 that to which N points, - 1 the other one");
        Room r = Room.floor();
        r.put(1, 0, 100, 0, 100, -100, 0, -100, -100, 0);
        due("N points to the eye", r.facing(0), 1);
        due("N points away", r.facing(1), -1);
        r.eyeAt(0, 0, -10);
        due("from below", r.facing(0), -1);
        due("from below", r.facing(1), 1);
        r.moveTo(0, 2, 0, -200, 0);
        due("a corner across turns N", r.facing(0), 1);
    }

    private static void onIt() {
        CHECK.sentence("0 on it");
        Room r = Room.floor();
        int[][] on = {{0, 0}, {100, -100}, {0, -100}, {255, 255}, {-255, 255}};
        for (int[] e : on) {
            r.eyeAt(e[0], e[1], 0);
            due("on it", r.facing(0), 0);
            r.eyeAt(e[0], e[1], 1);
            due("one step above", r.facing(0), 1);
            r.eyeAt(e[0], e[1], -1);
            due("one step below", r.facing(0), -1);
        }
    }

    private static void eachAxis() {
        CHECK.sentence("1, - 1, 0 (with the least numbers, on each axis)");
        int[][] planes = {{0, 1, 0, 0, 0, 1}, {0, 0, 1, 1, 0, 0}, {1, 0, 0, 0, 1, 0}};
        for (int axis = 0; axis < 3; axis++) {
            int[] p = planes[axis];
            for (int step = -1; step <= 1; step++) {
                Room r = new Room();
                r.put(1, 5, 6, 7, 5 + p[0], 6 + p[1], 7 + p[2], 5 + p[3], 6 + p[4], 7 + p[5]);
                r.eyeAt(axis == 0 ? 5 + step : -50, axis == 1 ? 6 + step : 70, axis == 2 ? 7 + step : -90);
                due("a step of " + step + " on axis " + axis, r.facing(0), step);
            }
        }
    }

    private static void greatNumbers() {
        CHECK.sentence("1, - 1, 0 (with the greatest numbers)");
        Room r = new Room();
        r.put(1, 255, -255, -255, -255, 255, -255, -255, -255, 255);
        r.eyeAt(255, 255, 255);
        due("far out", r.facing(0), 1);
        r.eyeAt(-255, -255, -255);
        due("far behind", r.facing(0), -1);
        r.eyeAt(-85, -85, -85);
        due("in its middle", r.facing(0), 0);
        r.eyeAt(-85, -85, -84);
        due("hardly before", r.facing(0), 1);
        r.eyeAt(-85, -86, -85);
        due("hardly behind", r.facing(0), -1);
    }

    private static void noneSuch() {
        CHECK.sentence("BAD (here - 2): none such");
        for (int i : Check.outside(0, 2)) {
            CHECK.refused("facing(" + i + ")", -2, Room::filled, r -> r.facing(i));
        }
        CHECK.refused("facing(0)", 1, Room::filled, r -> r.facing(0));
        CHECK.refused("facing(2)", 1, Room::filled, r -> r.facing(2));
        due("without triangles", new Room().facing(0), -2);
        Room r = Room.pile(127);
        due("facing(126) of 127", r.facing(126), 1);
        due("facing(127) of 127", r.facing(127), -2);
    }
}
