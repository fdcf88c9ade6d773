/** Promise 20: lit. */
public final class Promise20Test {
    private static final Check CHECK = new Check("Promise20Test");
    private static final int BAD = RayRoom.BAD;
    private static final int NONE = RayRoom.NONE;

    public static void main(String[] args) {
        eachLevel();
        notBelow();
        finest();
        leaning();
        fromBothSides();
        greatNumbers();
        otherSide();
        onThePlane();
        inShadow();
        hitsNothing();
        noStrength();
        noSuchLight();
        noSuchPixel();
        CHECK.end();
    }

    private static void due(String call, long got, long want) {
        CHECK.due(call, got, want);
    }

    private static int levelFrom(Room r, int x, int y, int z) {
        r.lightAt(0, 1, x, y, z);
        return r.lit(0, 0, 0);
    }

    /** N is 0 0 1 many times over, so the level is the greatest k with (15 z)^2 not below k^2 (x^2 + y^2 + z^2). */
    private static int levelOf(int x, int y, int z) {
        int k = 15;
        while (225L * z * z < (long) k * k * (x * x + y * y + z * z)) {
            k--;
        }
        return k;
    }

    private static void eachLevel() {
        CHECK.sentence("its LEVEL: the greatest k of 0 .. 15");
        Room r = Room.floor();
        boolean[] found = new boolean[16];
        for (int z = 1; z <= 150; z++) {
            int level = levelFrom(r, -60, 20, z);
            due("from -60 20 " + z, level, levelOf(-60, 20, z));
            found[Math.max(level, 0)] = true;
        }
        Room s = Room.floor();
        for (int z = 150; z <= 255; z++) {
            found[Math.max(levelFrom(s, 3, -40, z), 0)] = true;
            due("from 3 -40 " + z, s.lit(0, 0, 0), levelOf(3, -40, z));
        }
        found[Math.max(levelFrom(s, 0, 0, 1), 0)] = true;
        for (int k = 0; k < 16; k++) {
            CHECK.dueTrue("some light has level " + k, found[k]);
        }
    }

    private static void notBelow() {
        CHECK.sentence("(15 N . l) squared not below k k (N . N) (l . l) (equal to it)");
        Room r = Room.floor();
        int[][] equal = {{0, 0, 1, 15}, {0, 0, 255, 15}, {3, 0, 4, 12}, {0, -4, 3, 9}, {2, 2, 1, 5}, {1, 2, 2, 10},
            {10, 11, 2, 2}, {14, 2, 5, 5}, {189, 0, 252, 12}, {10, 10, 5, 5}, {2, 10, 11, 11}, {5, 2, 14, 14}};
        for (int[] l : equal) {
            due("just equal from " + l[0] + " " + l[1] + " " + l[2], levelFrom(r, l[0], l[1], l[2]), l[3]);
            due("as reckoned", levelOf(l[0], l[1], l[2]), l[3]);
            // One step further away along the floor: a little below.
            int x = l[0] + 1;
            due("just below", levelFrom(r, x, l[1], l[2]), levelOf(x, l[1], l[2]));
        }
        due("nearly 15", levelFrom(r, 1, 0, 255), 14);
        due("nearly 12", levelFrom(r, 190, 0, 253), 11);
        due("hardly 12", levelFrom(r, 189, 0, 253), 12);
        due("1 / 15 just so", levelFrom(r, 2, 14, 1), levelOf(2, 14, 1));
        due("1", levelFrom(r, 10, 11, 1), 1);
        due("nearly 1", levelFrom(r, 15, 1, 1), 0);
        due("hardly any", levelFrom(r, 255, 255, 1), 0);
    }

    /** N is 0 0 1 and D 0 0 -1: nothing is multiplied, so that each step can be seen. */
    private static void finest() {
        CHECK.sentence("(15 N . l) squared not below k k (N . N) (l . l) (with the least numbers)");
        Room r = new Room();
        r.put(1, 0, 0, 0, 1, 0, 0, 0, 1, 0);
        r.eyeAt(0, 0, 10);
        r.axis(0, 0, 0, -1);
        for (int z : new int[] {1, 2, 3, 4, 5, 12, 60, 200, 253, 254, 255}) {
            for (int x = 0; x < 12; x++) {
                due("from " + x + " 0 " + z, levelFrom(r, x, 0, z), levelOf(x, 0, z));
            }
        }
        due("from 190 0 253", levelFrom(r, 190, 0, 253), 11);
        due("from 189 0 252", levelFrom(r, 189, 0, 252), 12);
        due("from 255 255 1", levelFrom(r, 255, 255, 1), 0);
    }

    /** Triangles that lean every way, and not only the first one of a room. */
    private static void leaning() {
        CHECK.sentence("THE LEVEL of a light at P (N is (B - A) x (C - A))");
        int[][] edges = {{1, 0, 0, 0, 1, 0}, {0, 1, 0, 0, 0, 1}, {0, 0, 1, 1, 0, 0}, {1, 2, 3, -3, 1, 2},
            {-7, 5, 1, 4, 4, -9}, {100, -3, 20, 7, 90, -60}, {2, 3, 6, 3, -6, 2}, {-5, 0, 12, 1, 40, 3}};
        int[][] lights = {{9, 4, 7}, {-20, 33, 5}, {6, -8, 1}, {255, 255, 255}, {-3, -2, -6}, {1, -40, 2}, {-90, 1, 0}};
        for (int[] e : edges) {
            Room r = new Room();
            Model model = new Model();
            // Far behind the eye, with other normals.
            r.put(1, 250, 250, -250, 251, 250, -250, 250, 251, -251);
            r.put(1, 250, 250, -250, 250, 251, -250, 250, 250, -251);
            r.put(1, 0, 0, 0, e[0], e[1], e[2], e[3], e[4], e[5]);
            model.put(1, 250, 250, -250, 251, 250, -250, 250, 251, -251);
            model.put(1, 250, 250, -250, 250, 251, -250, 250, 250, -251);
            model.put(1, 0, 0, 0, e[0], e[1], e[2], e[3], e[4], e[5]);
            for (int side = -1; side <= 1; side += 2) {
                r.eyeAt(side * 50, side * 60, side * 70);
                model.eyeAt(side * 50, side * 60, side * 70);
                due("hit at corner A", r.hitAlong(-50 * side, -60 * side, -70 * side), 2);
                model.axis(0, -50 * side, -60 * side, -70 * side);
                for (int[] l : lights) {
                    model.lightAt(0, 1, l[0], l[1], l[2]);
                    due("from " + l[0] + " " + l[1] + " " + l[2], levelFrom(r, l[0], l[1], l[2]), model.lit(0, 0, 0));
                }
            }
        }
    }

    private static void fromBothSides() {
        CHECK.sentence("LIT, if the light and the eye lie on the same side of its plane (whichever)");
        Room r = Room.floor();
        r.eyeAt(0, 0, -10);
        r.axis(0, 0, 0, 1);
        due("both below", levelFrom(r, -3, 0, -4), 12);
        due("one below", levelFrom(r, -3, 0, 4), NONE);
        due("at the eye", levelFrom(r, 0, 0, -10), 15);
        due("beyond the eye", levelFrom(r, 0, 0, -255), 15);
    }

    /** At places that are no whole ones, with the greatest numbers that can be. */
    private static void greatNumbers() {
        CHECK.sentence("the greatest k (with the greatest numbers)");
        Room r = new Room();
        r.put(1, 255, -255, -255, -255, 255, -255, -255, -255, 255);
        r.eyeAt(255, 255, 255);
        due("hit", r.hitAlong(-1023, -1023, -1023), 0);
        due("straight", levelFrom(r, 255, 255, 255), 15);
        due("hit", r.hitAlong(-1023, -1023, -1022), 0);
        due("not quite", r.lit(0, 0, 0), 14);
        due("nearly along", levelFrom(r, 255, -254, -255), 0);
    }

    private static void otherSide() {
        CHECK.sentence("NONE: it is not (the light is on the other side)");
        Room r = Room.floor();
        due("one step above", levelFrom(r, 3, 0, 1) >= 0 ? 1 : 0, 1);
        due("one step below", levelFrom(r, 3, 0, -1), NONE);
        due("straight below", levelFrom(r, 0, 0, -255), NONE);
    }

    private static void onThePlane() {
        CHECK.sentence("on the same side of its plane (neither on it)");
        Room r = Room.floor();
        due("on it", levelFrom(r, 3, 0, 0), NONE);
        due("far out on it", levelFrom(r, 255, -255, 0), NONE);
        due("at the place", levelFrom(r, 0, 0, 0), NONE);
    }

    private static void inShadow() {
        CHECK.sentence("no other triangle is hit by the way from P to the light before its end: at s above 0 and below 1");
        Room r = Room.floor();
        r.put(1, 2, -5, 2, 2, 5, 2, 2, 0, 6);
        due("s is 1 / 2, on its edge", levelFrom(r, 4, 0, 4), NONE);
        due("s is 2 / 3", levelFrom(r, 3, 0, 3), NONE);
        due("s is 1: the light is on it", levelFrom(r, 2, 0, 2), 10);
        due("s is above 1", levelFrom(r, 1, 0, 1), 10);
        due("below its edge", levelFrom(r, 255, 0, 254), 10);
        due("s is 2 / 255", levelFrom(r, 255, 0, 255), NONE);
        due("it is behind", levelFrom(r, -4, 0, 4), 10);
        r.moveTo(1, 0, 2, 0, 2);
        due("on its corner", levelFrom(r, 4, 0, 4), NONE);
        r.moveTo(1, 0, 2, 1, 2);
        r.moveTo(1, 2, 2, 2, 6);
        due("beside its corner", levelFrom(r, 4, 0, 4), 10);
        Room s = Room.floor();
        s.put(1, 0, 0, 0, 9, 0, 0, 9, 0, 9);
        due("direction . N is 0", levelFrom(s, 4, 0, 2), levelOf(4, 0, 2));
        s.put(1, 0, 0, 0, 9, -9, 0, 9, 9, 0);
        s.put(1, -100, -100, 0, 100, -100, 0, 0, 100, 0);
        s.put(1, 0, 0, 0, 3, -9, -9, 3, 9, -9);
        due("s is 0", levelFrom(s, 4, 0, 2), levelOf(4, 0, 2));
    }

    private static void hitsNothing() {
        CHECK.sentence("- 3: it hits nothing");
        Room r = Room.floor();
        r.lightAt(0, 1, 0, 0, 5);
        r.axis(0, 0, 0, 1);
        for (int which = 0; which < 4; which++) {
            due("lit(0, 0, " + which + ")", r.lit(0, 0, which), -3);
            due("in a new object", new Room().lit(0, 0, which), -3);
        }
        due("a pixel of many", Room.filled().lit(0, 0, 0), -3);
    }

    private static void noStrength() {
        CHECK.sentence("(a light of strength 0 is asked like the others)");
        Room r = Room.floor();
        for (int which = 0; which < 4; which++) {
            r.lightAt(which, 0, 3, 0, 4);
            due("lit(0, 0, " + which + ")", r.lit(0, 0, which), 12);
        }
        r.lightAt(2, 0, 3, 0, -4);
        due("on the other side", r.lit(0, 0, 2), NONE);
        due("the others stay", r.lit(0, 0, 3), 12);
    }

    private static void noSuchLight() {
        CHECK.sentence("BAD: none such (light)");
        for (int which : Check.outside(0, 3)) {
            CHECK.refused("lit(1, 1, " + which + ")", BAD, Room::filled, r -> r.lit(1, 1, which));
            due("where nothing is hit", Room.filled().lit(0, 0, which), BAD);
        }
        for (int which = 0; which < 4; which++) {
            CHECK.dueTrue("there is light " + which, Room.filled().lit(1, 1, which) != BAD);
        }
    }

    private static void noSuchPixel() {
        CHECK.sentence("BAD: none such (pixel)");
        for (int x : Check.outside(0, 2)) {
            CHECK.refused("lit(" + x + ", 1, 0)", BAD, Room::filled, r -> r.lit(x, 1, 0));
        }
        for (int y : Check.outside(0, 1)) {
            CHECK.refused("lit(1, " + y + ", 0)", BAD, Room::filled, r -> r.lit(1, y, 0));
        }
        CHECK.dueTrue("lit(2, 1, 0) is not BAD", Room.filled().lit(2, 1, 0) != BAD);
        CHECK.dueTrue("lit(0, 1, 0) is not BAD", Room.filled().lit(0, 1, 0) != BAD);
    }
}
