/** Promise 24: seen. */
public final class Promise24Test {
    private static final Check CHECK = new Check("Promise24Test");
    private static final int BAD = RayRoom.BAD;

    public static void main(String[] args) {
        byNumber();
        firstHitsOnly();
        eachOnce();
        raysOfThePicture();
        none();
        asManyAsMayBe();
        noneSuch();
        CHECK.end();
    }

    private static void due(String call, long got, long want) {
        CHECK.due(call, got, want);
    }

    /** Triangles around the places that the rays of a row of 8 pixels come to, those on the right first. */
    private static Room beside() {
        Room r = new Room();
        for (int x = 7; x >= 0; x--) {
            int cx = 10 * (2 * x - 7);
            r.put(1, cx - 2, -2, 0, cx + 2, -2, 0, cx, 2, 0);
        }
        r.eyeAt(0, 0, 10);
        r.size(8, 1);
        r.axis(0, 0, 0, -10);
        r.axis(1, 10, 0, 0);
        return r;
    }

    private static void byNumber() {
        CHECK.sentence("the k-th, by number; k = - 1: how many");
        Room r = beside();
        due("seen(-1)", r.seen(-1), 8);
        CHECK.dueAll("all", r.allSeen(), 0, 1, 2, 3, 4, 5, 6, 7);
        r.moveTo(2, 0, 0, 0, 20);
        r.moveTo(2, 1, 5, 0, 20);
        r.moveTo(2, 2, 0, 5, 20);
        CHECK.dueAll("but 2, which is behind the eye", r.allSeen(), 0, 1, 3, 4, 5, 6, 7);
        r.size(2, 1);
        CHECK.dueAll("the two in the middle", r.allSeen(), 3, 4);
    }

    private static void firstHitsOnly() {
        CHECK.sentence("Of so many triangles as are hit first by rays of the picture");
        CHECK.dueAll("the floor and one of two above it", Room.filled().allSeen(), 0, 1);
        Room r = Room.stack(5, 0, 5);
        CHECK.dueAll("one ray", r.allSeen(), 0);
        r.moveTo(0, 0, 12, 10, 5);
        CHECK.dueAll("0 is moved away", r.allSeen(), 2);
    }

    private static void eachOnce() {
        CHECK.sentence("so many triangles (each once, by however many rays)");
        Room r = Room.stack(0);
        r.size(32, 32);
        CHECK.dueAll("all rays hit one", r.allSeen(), 0);
        // One that only the ray of a pixel in a corner of the picture hits.
        for (int[] at : new int[][] {{-31, 31}, {31, 31}, {-31, -31}, {31, -31}}) {
            Room s = new Room();
            s.put(1, at[0] - 1, at[1] - 1, 0, at[0] + 1, at[1] - 1, 0, at[0], at[1] + 1, 0);
            s.eyeAt(0, 0, 1);
            s.size(32, 32);
            s.axis(0, 0, 0, -1);
            s.axis(1, 1, 0, 0);
            s.axis(2, 0, 1, 0);
            due("seen(-1)", s.seen(-1), 1);
            due("seen(0)", s.seen(0), 0);
            s.size(30, 30);
            due("without that pixel", s.seen(-1), 0);
        }
    }

    /** Triangles that only rays beside the picture would hit: its own come to -1 and 1. */
    private static void raysOfThePicture() {
        CHECK.sentence("by rays of the picture (not by rays beside it)");
        int[][] beside = {{2, 0, 9, 9, 9, -9}, {-2, 0, -9, 9, -9, -9}, {0, 2, 9, 9, -9, 9}, {0, -2, 9, -9, -9, -9}};
        for (int[] c : beside) {
            Room r = new Room();
            r.put(1, c[0], c[1], 0, c[2], c[3], 0, c[4], c[5], 0);
            r.eyeAt(0, 0, 1);
            r.size(2, 2);
            r.axis(0, 0, 0, -1);
            r.axis(1, 1, 0, 0);
            r.axis(2, 0, 1, 0);
            due("seen(-1)", r.seen(-1), 0);
            r.size(4, 4);
            due("seen(-1) in a greater picture", r.seen(-1), 1);
        }
    }

    private static void none() {
        CHECK.sentence("how many (none)");
        due("seen(-1) without triangles", new Room().seen(-1), 0);
        due("seen(0) without triangles", new Room().seen(0), BAD);
        Room r = beside();
        r.axis(0, 0, 0, 10);
        due("away: seen(-1)", r.seen(-1), 0);
        due("away: seen(0)", r.seen(0), BAD);
        Room s = Room.stack(0);
        s.axis(0, 0, 0, 0);
        due("D of 0 0 0: seen(-1)", s.seen(-1), 0);
    }

    private static void asManyAsMayBe() {
        CHECK.sentence("how many (as many as may be)");
        Room r = new Room();
        for (int k = 0; k < 124; k++) {
            int x = 2 * (k % 16) - 15;
            int y = 2 * (k / 16) - 7;
            r.put(1, x, y, -1, x + 1, y, -1, x, y + 1, -1);
        }
        r.size(16, 8);
        r.axis(0, 0, 0, -1);
        r.axis(1, 1, 0, 0);
        r.axis(2, 0, 1, 0);
        due("seen(-1)", r.seen(-1), 124);
        due("seen(123)", r.seen(123), 123);
        due("seen(124)", r.seen(124), BAD);
        Room all = Room.pile(128).beyondAllCalls();
        all.eyeAt(0, 0, -200);
        all.axis(0, 0, 0, 1);
        due("seen(-1) of 128", all.seen(-1), 1);
        due("seen(0) of 128", all.seen(0), 127);
    }

    private static void noneSuch() {
        CHECK.sentence("BAD: none such");
        for (int k : Check.outside(-1, 1)) {
            CHECK.refused("seen(" + k + ")", BAD, Room::filled, r -> r.seen(k));
        }
        CHECK.refused("seen(-1)", 2, Room::filled, r -> r.seen(-1));
        CHECK.refused("seen(0)", 0, Room::filled, r -> r.seen(0));
        CHECK.refused("seen(1)", 1, Room::filled, r -> r.seen(1));
    }
}
