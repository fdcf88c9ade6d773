/** Promise 17: cross. */
public final class Promise17Test {
    private static final Check CHECK = new Check("Promise17Test");
    private static final int BAD = RayRoom.BAD;

    public static void main(String[] args) {
        howMany();
        none();
        theRuleOfHits();
        asManyAsMayBe();
        tillTheNext();
        noSuchPixel();
        CHECK.end();
    }

    private static void due(String call, long got, long want) {
        CHECK.due(call, got, want);
    }

    private static void howMany() {
        CHECK.sentence("How many triangles the ray of a pixel hits");
        Room r = Room.filled();
        int[][] want = {{0, 3, 0}, {1, 3, 1}};
        for (int y = 0; y < 2; y++) {
            for (int x = 0; x < 3; x++) {
                due("cross(" + x + ", " + y + ")", r.cross(x, y), want[y][x]);
                due("count(7)", r.count(7), want[y][x]);
            }
        }
        due("told(0) stays", r.told(0), 1);
    }

    private static void none() {
        CHECK.sentence("How many (none)");
        due("without triangles", new Room().cross(0, 0), 0);
        Room r = Room.stack(0, 3);
        due("cross(0, 0)", r.cross(0, 0), 2);
        r.axis(0, 0, 0, 1);
        due("away", r.cross(0, 0), 0);
        due("crossing(0)", r.crossing(0), BAD);
        due("count(7)", r.count(7), 0);
        r.axis(0, 0, 0, 0);
        due("D of 0 0 0", r.cross(0, 0), 0);
    }

    private static void theRuleOfHits() {
        CHECK.sentence("How many triangles the ray HITS (t above 0, edges and corners too)");
        Room r = Room.stack(10, 11, 9, -255);
        due("not at t = 0, not behind", r.cross(0, 0), 2);
        CHECK.dueAll("crossings", r.allCrossings(), 2, 3);
        // Upright in the ray, with a corner on it, with an edge on it, beside it.
        r.put(1, 0, -5, 0, 0, 5, 0, 0, 0, 9);
        r.put(1, 0, 0, 1, 5, 5, 1, 5, -5, 1);
        r.put(1, 0, -5, 2, 0, 5, 2, 5, 0, 2);
        r.put(1, 1, -5, 3, 1, 5, 3, 5, 0, 3);
        due("with a corner and an edge", r.cross(0, 0), 4);
        CHECK.dueAll("crossings", r.allCrossings(), 2, 6, 5, 3);
    }

    private static void asManyAsMayBe() {
        CHECK.sentence("How many triangles the ray hits (as many as may be)");
        Room r = Room.pile(127);
        r.axis(0, 0, 0, -1);
        due("cross(0, 0)", r.cross(0, 0), 127);
        due("the last", r.crossing(126), 126);
        due("none after it", r.crossing(127), BAD);
        Room s = Room.pile(128).beyondAllCalls();
        s.axis(0, 0, 0, -1);
        due("cross(0, 0) of 128", s.cross(0, 0), 128);
        due("the last", s.crossing(127), 127);
        due("none after it", s.crossing(128), BAD);
    }

    private static void tillTheNext() {
        CHECK.sentence("they are the CROSSINGS then, till the next cross(), whatever changes");
        Room r = Room.stack(0, 3, -5);
        r.cross(0, 0);
        r.moveTo(1, 2, 0, 10, -200);
        CHECK.dueAll("after move()", r.allCrossings(), 1, 0, 2);
        r.eyeAt(0, 0, -100);
        r.axis(0, 0, 0, 1);
        r.size(2, 2);
        CHECK.dueAll("after eye(), axis(), size()", r.allCrossings(), 1, 0, 2);
        r.put(1, -10, -10, 1, 10, -10, 1, 0, 10, 1);
        r.build(1);
        r.drop();
        CHECK.dueAll("after triangle(), build()", r.allCrossings(), 1, 0, 2);
        r.hit(0, 0);
        r.seen(-1);
        r.lit(0, 0, 0);
        r.shadow(0, 0, 0);
        r.picture(0, 0, 2, 2);
        r.meets(0, 0, 0);
        CHECK.dueAll("after other rays", r.allCrossings(), 1, 0, 2);
        due("the next", r.cross(0, 0), 4);
        CHECK.dueAll("from below", r.allCrossings(), 1, 2, 0, 3);
    }

    private static void noSuchPixel() {
        CHECK.sentence("BAD, changing nothing: no such pixel");
        for (int x : Check.outside(0, 2)) {
            CHECK.refused("cross(" + x + ", 0)", BAD, Room::filled, r -> r.cross(x, 0));
        }
        for (int y : Check.outside(0, 1)) {
            CHECK.refused("cross(0, " + y + ")", BAD, Room::filled, r -> r.cross(0, y));
        }
        due("cross(0, 0)", Room.filled().cross(0, 0), 0);
        due("cross(2, 1)", Room.filled().cross(2, 1), 1);
    }
}
