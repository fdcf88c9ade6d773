/** Promise 8: size. */
public final class Promise08Test {
    private static final Check CHECK = new Check("Promise08Test");
    private static final int BAD = RayRoom.BAD;
    private static final int MIN = Integer.MIN_VALUE;
    private static final int MAX = Integer.MAX_VALUE;

    public static void main(String[] args) {
        eachSize();
        notOneTo32();
        someDOutside();
        farOutside();
        bothTogether();
        CHECK.end();
    }

    private static void due(String call, long got, long want) {
        CHECK.due(call, got, want);
    }

    private static void eachSize() {
        CHECK.sentence("The picture's size: 0");
        for (int v = 1; v <= 32; v++) {
            Room r = new Room();
            due("size(" + v + ", " + (33 - v) + ")", r.size(v, 33 - v), 0);
            due("W", r.count(3), v);
            due("H", r.count(4), 33 - v);
            due("the last pixel", r.pixel(v - 1, 32 - v), 0);
            due("one beyond", r.pixel(v, 0), BAD);
            due("one below", r.pixel(0, 33 - v), BAD);
            due("back to one", r.size(1, 1), 0);
            due("the last pixel", r.pixel(v - 1, 0), v == 1 ? 0 : BAD);
        }
        Room r = Room.filled();
        r.size(32, 32);
        due("told(0) stays", r.told(0), 1);
        due("crossings stay", r.count(7), 3);
        due("the tree stays", r.count(2), 5);
    }

    private static void notOneTo32() {
        CHECK.sentence("BAD, changing nothing: not 1 .. 32");
        for (int v : Check.outside(1, 32)) {
            CHECK.refused("size(" + v + ", 1)", BAD, Room::filled, r -> r.size(v, 1));
            CHECK.refused("size(1, " + v + ")", BAD, Room::filled, r -> r.size(1, v));
            CHECK.refused("size(" + v + ", " + v + ")", BAD, Room::filled, r -> r.size(v, v));
        }
        due("size(1, 1)", Room.filled().size(1, 1), 0);
        due("size(32, 32)", Room.filled().size(32, 32), 0);
        due("size(1, 32)", Room.filled().size(1, 32), 0);
        due("size(32, 1)", Room.filled().size(32, 1), 0);
    }

    private static Room turned(int which, int place, int v) {
        Room r = new Room();
        r.axis(which, place == 0 ? v : 0, place == 1 ? v : 0, place == 2 ? v : 0);
        return r;
    }

    private static void someDOutside() {
        CHECK.sentence("BAD, changing nothing: some D would be outside");
        for (int last = 1; last < 32; last++) {
            // The least number that leaves no room for one pixel more.
            int v = 1023 / last;
            for (int place = 0; place < 3; place++) {
                int sign = last % 2 == 0 ? 1 : -1;
                due("width for " + v, turned(1, place, sign * v).size(last + 1, 32), 0);
                due("height for " + v, turned(2, place, sign * v).size(32, last + 1), 0);
                due("width for " + (v + 1), turned(1, place, sign * (v + 1)).size(last + 1, 1), BAD);
                due("height for " + (v + 1), turned(2, place, sign * (v + 1)).size(1, last + 1), BAD);
            }
        }
        CHECK.refused("size(5, 2)", BAD, Promise08Test::wide, r -> r.size(5, 2));
        CHECK.refused("size(4, 3)", BAD, Promise08Test::wide, r -> r.size(4, 3));
        CHECK.refused("size(32, 32)", BAD, Promise08Test::wide, r -> r.size(32, 32));
        due("size(4, 2)", wide().size(4, 2), 0);
        due("size(3, 3)", wide().size(3, 3), 0);
        due("size(1, 1)", wide().size(1, 1), 0);
    }

    /** D goes up to 1000 + 3 * 7 + 1 * 2 = 1023 in a picture of 4 by 2. */
    private static Room wide() {
        Room r = Room.filled();
        r.axis(0, 0, 0, -1000);
        r.axis(1, 7, 0, 7);
        r.axis(2, 0, 7, 2);
        return r;
    }

    private static void farOutside() {
        CHECK.sentence("BAD: some D would be outside (far outside: 32 bits would wrap)");
        for (int v : new int[] {MIN, MAX, 1 << 30, 1 << 29, 1 << 28, 1 << 27, -(1 << 30), 1431655766, 858993460}) {
            for (int many = 2; many <= 32; many++) {
                due("size(" + many + ", 1) for " + v, turned(1, 1, v).size(many, 1), BAD);
                due("size(1, " + many + ") for " + v, turned(2, 2, v).size(1, many), BAD);
            }
            due("size(1, 32) for " + v, turned(1, 0, v).size(1, 32), 0);
            due("size(32, 1) for " + v, turned(2, 0, v).size(32, 1), 0);
        }
        Room both = turned(1, 0, MAX);
        both.axis(2, MIN, 0, 0);
        due("two large ones do not cancel", both.size(2, 2), BAD);
    }

    private static void bothTogether() {
        CHECK.sentence("BAD, changing nothing: one of both is wrong");
        CHECK.refused("size(2, 33)", BAD, Room::filled, r -> r.size(2, 33));
        CHECK.refused("size(33, 1)", BAD, Room::filled, r -> r.size(33, 1));
        CHECK.refused("size(2, 0)", BAD, Room::filled, r -> r.size(2, 0));
        CHECK.refused("size(0, 1)", BAD, Room::filled, r -> r.size(0, 1));
    }
}
