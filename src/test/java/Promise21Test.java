/** Promise 21: shadow. */
public final class Promise21Test {
    private static final Check CHECK = new Check("Promise21Test");
    private static final int BAD = RayRoom.BAD;
    private static final int NONE = RayRoom.NONE;

    public static void main(String[] args) {
        theLeastNumber();
        noneDoes();
        betweenBothEnds();
        edgesAndCorners();
        otherSide();
        hitsNothing();
        noStrength();
        asManyAsMayBe();
        noSuchLight();
        noSuchPixel();
        CHECK.end();
    }

    private static void due(String call, long got, long want) {
        CHECK.due(call, got, want);
    }

    private static int shadowFrom(Room r, int x, int y, int z) {
        r.lightAt(0, 1, x, y, z);
        return r.shadow(0, 0, 0);
    }

    private static void theLeastNumber() {
        CHECK.sentence("The triangle of the least number that stands between");
        Room r = Room.floor();
        r.put(1, 3, -2, 1, 3, 2, 1, 3, 0, 5);
        due("one", shadowFrom(r, 4, 0, 4), 1);
        r.put(1, 2, -2, 1, 2, 2, 1, 2, 0, 5);
        due("not the nearer one", shadowFrom(r, 4, 0, 4), 1);
        r.put(1, 1, -2, 0, 1, 2, 0, 1, 0, 5);
        due("not the nearest one", shadowFrom(r, 4, 0, 4), 1);
        r.moveTo(1, 2, 3, 0, 2);
        due("now the next", shadowFrom(r, 4, 0, 4), 2);
        due("only the last is left", shadowFrom(r, 2, 0, 2), 3);
        Room s = new Room();
        s.put(1, 2, -2, 1, 2, 2, 1, 2, 0, 5);
        s.put(1, -100, -100, 0, 100, -100, 0, 0, 100, 0);
        s.eyeAt(0, 0, 10);
        s.axis(0, 0, 0, -1);
        due("number 0", shadowFrom(s, 4, 0, 4), 0);
    }

    private static void noneDoes() {
        CHECK.sentence("NONE: none does");
        Room r = Room.floor();
        due("nothing else is there", shadowFrom(r, 4, 0, 4), NONE);
        r.put(1, 3, -2, 1, 3, 2, 1, 3, 0, 5);
        due("beside it", shadowFrom(r, 0, 4, 4), NONE);
        due("on the other hand", shadowFrom(r, -4, 0, 4), NONE);
        due("above it", shadowFrom(r, 4, 0, 8), NONE);
        due("below it", shadowFrom(r, 100, 0, 1), NONE);
    }

    private static void betweenBothEnds() {
        CHECK.sentence("stands between (at s above 0 and below 1)");
        Room r = Room.floor();
        r.put(1, 2, -5, 0, 2, 5, 0, 2, 0, 9);
        due("before its end", shadowFrom(r, 3, 0, 3), 1);
        due("at its end", shadowFrom(r, 2, 0, 2), NONE);
        due("after its end", shadowFrom(r, 1, 0, 1), NONE);
        Room s = Room.floor();
        s.put(1, 0, 0, 0, 9, -9, 0, 9, 9, 0);
        s.put(1, -100, -100, 0, 100, -100, 0, 0, 100, 0);
        s.put(1, 0, 0, 0, 3, -9, -9, 3, 9, -9);
        s.put(1, 0, 0, 0, 9, 0, 0, 9, 0, 9);
        due("at its start, or along it", shadowFrom(s, 4, 0, 2), NONE);
        s.put(1, 0, -1, 1, 1, -1, 0, 1, 3, 0);
        due("hardly after its start", shadowFrom(s, 4, 0, 2), 5);
    }

    private static void edgesAndCorners() {
        CHECK.sentence("stands between (edges and corners too)");
        int[][] on = {{2, 0, 2, 2, 5, 2, 2, 5, 6}, {2, 5, 2, 2, 0, 2, 2, 5, 6}, {2, 5, 2, 2, 5, 6, 2, 0, 2},
            {2, -5, 2, 2, 5, 2, 2, 5, 6}, {2, -5, -2, 2, 5, 6, 2, 5, -2}, {2, 0, -3, 2, 0, 9, 2, 7, 0}};
        int[][] off = {{2, 1, 2, 2, 5, 2, 2, 5, 6}, {2, 5, 2, 2, 1, 2, 2, 5, 6}, {2, 5, 2, 2, 5, 6, 2, 1, 2},
            {2, -5, 3, 2, 5, 3, 2, 5, 6}, {2, -5, -3, 2, 5, 6, 2, 5, -2}, {2, 1, -3, 2, 1, 9, 2, 7, 0}};
        for (int k = 0; k < on.length; k++) {
            Room r = Room.floor();
            r.put(1, on[k]);
            due("touched by the way", shadowFrom(r, 4, 0, 4), 1);
            Room s = Room.floor();
            s.put(1, off[k]);
            due("beside the way", shadowFrom(s, 4, 0, 4), NONE);
        }
    }

    private static void otherSide() {
        CHECK.sentence("NONE: it is on the other side (or on the plane)");
        Room r = Room.floor();
        r.put(1, 2, -1, -3, 2, 1, -3, 2, 0, 3);
        due("on the eye's side", shadowFrom(r, 4, 0, 1), 1);
        due("on the other side", shadowFrom(r, 4, 0, -1), NONE);
        due("on the plane", shadowFrom(r, 4, 0, 0), NONE);
        due("at the place itself", shadowFrom(r, 0, 0, 0), NONE);
        r.eyeAt(0, 0, -10);
        r.axis(0, 0, 0, 1);
        due("seen from below", shadowFrom(r, 4, 0, -1), 1);
        due("seen from below", shadowFrom(r, 4, 0, 1), NONE);
    }

    private static void hitsNothing() {
        CHECK.sentence("NONE: the ray hits nothing");
        Room r = Room.filled();
        for (int which = 0; which < 4; which++) {
            due("shadow(0, 0, " + which + ")", r.shadow(0, 0, which), NONE);
            due("in a new object", new Room().shadow(0, 0, which), NONE);
        }
        Room s = Room.floor();
        s.put(1, 2, -1, -3, 2, 1, -3, 2, 0, 3);
        s.lightAt(0, 1, 4, 0, 1);
        due("before", s.shadow(0, 0, 0), 1);
        s.axis(0, 0, 0, 1);
        due("away", s.shadow(0, 0, 0), NONE);
    }

    private static void noStrength() {
        CHECK.sentence("(a light of strength 0 is asked like the others)");
        Room r = Room.floor();
        r.put(1, 2, -5, 0, 2, 5, 0, 2, 0, 9);
        for (int which = 0; which < 4; which++) {
            r.lightAt(which, 0, 4, 0, 4);
            due("shadow(0, 0, " + which + ")", r.shadow(0, 0, which), 1);
        }
        r.lightAt(2, 0, -4, 0, 4);
        due("elsewhere", r.shadow(0, 0, 2), NONE);
        due("the others stay", r.shadow(0, 0, 1), 1);
    }

    private static void asManyAsMayBe() {
        CHECK.sentence("of the least number (of as many as may be)");
        Room r = Room.pile(125);
        // A last one, before the eye and below the light: nothing but the light's way meets it.
        r.put(1, 3, -5, -1, 3, 5, -1, 3, 0, 9);
        r.axis(0, 0, 0, -1);
        r.lightAt(3, 1, 6, 0, 2);
        due("the last", r.shadow(0, 0, 3), 125);
        Room all = Room.pile(127).beyondAllCalls();
        all.put(1, 3, -5, -1, 3, 5, -1, 3, 0, 9);
        all.axis(0, 0, 0, -1);
        all.lightAt(3, 1, 6, 0, 2);
        due("the last of 128", all.shadow(0, 0, 3), 127);
        due("no other way is shut", all.shadow(0, 0, 2), NONE);
    }

    private static void noSuchLight() {
        CHECK.sentence("BAD: none such (light)");
        for (int which : Check.outside(0, 3)) {
            CHECK.refused("shadow(1, 1, " + which + ")", BAD, Room::filled, r -> r.shadow(1, 1, which));
            due("where nothing is hit", Room.filled().shadow(0, 0, which), BAD);
        }
        for (int which = 0; which < 4; which++) {
            CHECK.dueTrue("there is light " + which, Room.filled().shadow(1, 1, which) != BAD);
        }
    }

    private static void noSuchPixel() {
        CHECK.sentence("BAD: none such (pixel)");
        for (int x : Check.outside(0, 2)) {
            CHECK.refused("shadow(" + x + ", 1, 0)", BAD, Room::filled, r -> r.shadow(x, 1, 0));
        }
        for (int y : Check.outside(0, 1)) {
            CHECK.refused("shadow(1, " + y + ", 0)", BAD, Room::filled, r -> r.shadow(1, y, 0));
        }
        CHECK.dueTrue("shadow(2, 1, 0) is not BAD", Room.filled().shadow(2, 1, 0) != BAD);
        CHECK.dueTrue("shadow(0, 1, 0) is not BAD", Room.filled().shadow(0, 1, 0) != BAD);
    }
}
