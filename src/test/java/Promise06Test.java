/** Promise 6: eye. */
public final class Promise06Test {
    private static final Check CHECK = new Check("Promise06Test");
    private static final int BAD = RayRoom.BAD;

    public static void main(String[] args) {
        isTheEye();
        atTheEdge();
        notJustOne();
        CHECK.end();
    }

    private static void isTheEye() {
        CHECK.sentence("The one point that was collected, which is gone then, is the eye: 0");
        Room r = Room.filled().collect(0, 0, -8);
        CHECK.due("facing before", r.facing(0), 1);
        CHECK.due("eye()", r.eye(), 0);
        CHECK.due("points that are left", r.count(1), 0);
        CHECK.due("facing", r.facing(0), -1);
        CHECK.due("told(0) stays", r.told(0), 1);
        CHECK.due("crossings stay", r.count(7), 3);
        CHECK.due("the tree stays", r.count(2), 5);
        CHECK.changesLike("the eye to where it is", 0, () -> Room.filled().collect(0, 0, 8), Room::eye, Room::drop);
    }

    private static void atTheEdge() {
        CHECK.sentence("is the eye (in the furthest corners)");
        for (int k = 0; k < 8; k++) {
            int x = (k & 1) == 0 ? 255 : -255;
            int y = (k & 2) == 0 ? 255 : -255;
            int z = (k & 4) == 0 ? 255 : -255;
            Room r = new Room();
            CHECK.due("eye()", r.eyeAt(x, y, z), 0);
            int in = z > 0 ? -1 : 1;
            // A triangle that has the place one step before the eye as its corner A.
            int ax = x > 0 ? x - 1 : x + 1;
            int ay = y > 0 ? y - 1 : y + 1;
            r.put(1, ax, ay, z + in, 0, ay, z + in, ax, 0, z + in);
            CHECK.due("hit", r.hitAlong(ax - x, ay - y, in), 0);
            CHECK.dueAll("told", r.allTold(), 0, 1, 1, ax, ay, z + in, 1, 1, 0, 0, 1);
        }
    }

    private static void notJustOne() {
        CHECK.sentence("BAD (what is collected stays): not just one");
        CHECK.refused("no point", BAD, Room::filled, Room::eye);
        CHECK.refused("two points", BAD, () -> Room.filled().collect(0, 0, -8, 1, 1, 1), Room::eye);
        CHECK.refused("three points", BAD, () -> Room.filled().collect(0, 0, -8, 1, 1, 1, 2, 5, 9), Room::eye);
        CHECK.due("no point in a new object", new Room().eye(), BAD);
    }
}
