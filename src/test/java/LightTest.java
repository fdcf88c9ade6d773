/** Promises 20 to 23: levels, shadows, pixels and pictures. */
public final class LightTest {
    private static final Check CHECK = new Check("LightTest");
    private static final int NONE = RayRoom.NONE;
    private static final int BAD = RayRoom.BAD;
    private static final int MIN = Integer.MIN_VALUE;
    private static final int MAX = Integer.MAX_VALUE;

    public static void main(String[] args) {
        levels();
        levelsOfGreatNumbers();
        sides();
        wrongOnes();
        shadows();
        shadowsAtTheirEdges();
        pixels();
        pixelsAreCutOff();
        pixelsInShadow();
        pictures();
        pictureOrder();
        CHECK.end();
    }

    private static void due(String call, long got, long want) {
        CHECK.due(call, got, want);
    }

    /** A floor at z = 0, whose place 0 0 0 is looked at from above. */
    private static Scene floor(int tone) {
        Scene s = new Scene();
        s.triangle(tone, -100, -100, 0, 100, -100, 0, 0, 100, 0);
        s.eye(0, 0, 10);
        s.room.axis(0, 0, 0, -1);
        return s;
    }

    private static int levelFrom(Scene s, int x, int y, int z) {
        s.light(0, 1, x, y, z);
        return s.room.lit(0, 0, 0);
    }

    private static void levels() {
        Scene s = floor(1);
        due("20: from straight above", levelFrom(s, 0, 0, 5), 15);
        due("20: through the eye", levelFrom(s, 0, 0, 255), 15);
        due("20: not quite straight", levelFrom(s, 1, 0, 255), 14);
        due("20: 4 / 5", levelFrom(s, 3, 0, 4), 12);
        due("20: below 4 / 5", levelFrom(s, 190, 0, 253), 11);
        due("20: above 4 / 5", levelFrom(s, 189, 0, 253), 12);
        due("20: 3 / 5", levelFrom(s, 0, -4, 3), 9);
        due("20: below 3 / 5", levelFrom(s, 0, -5, 3), 7);
        due("20: 1 / 3", levelFrom(s, 2, 2, 1), 5);
        due("20: 2 / 3", levelFrom(s, 1, 2, 2), 10);
        due("20: 1 / 15", levelFrom(s, 14, 5, 2) >= 1 ? 1 : 0, 1);
        due("20: 1 / 15 at an edge", levelFrom(s, 10, 11, 1), 1);
        due("20: below 1 / 15", levelFrom(s, 15, 1, 1), 0);
        due("20: nearly along", levelFrom(s, 255, 0, 1), 0);
        s.light(3, 0, 3, 0, 4);
        due("20: strength 0 is asked too", s.room.lit(0, 0, 3), 12);
        due("20: where none was put it is at 0 0 0", s.room.lit(0, 0, 2), NONE);
    }

    /** Straight above a place that is no whole one, with the greatest numbers that can be. */
    private static void levelsOfGreatNumbers() {
        Scene s = new Scene();
        s.triangle(1, 255, -255, -255, -255, 255, -255, -255, -255, 255);
        s.eye(255, 255, 255);
        due("15: hit", s.hitAlong(-1023, -1023, -1023), 0);
        s.light(0, 1, 255, 255, 255);
        due("20: straight", s.room.lit(0, 0, 0), 15);
        due("15: hit", s.hitAlong(-1023, -1023, -1022), 0);
        due("20: not quite", s.room.lit(0, 0, 0), 14);
        s.light(0, 1, 255, -254, -255);
        due("20: nearly along", s.room.lit(0, 0, 0), 0);
    }

    private static void sides() {
        Scene s = floor(1);
        due("20: other side", levelFrom(s, 3, 0, -4), NONE);
        due("20: on the plane", levelFrom(s, 3, 0, 0), NONE);
        due("20: at the place itself", levelFrom(s, 0, 0, 0), NONE);
        s.triangle(1, 2, -1, -3, 2, 1, -3, 2, 0, 3);
        due("21: other side", shadowFrom(s, 3, 0, -4), NONE);
        due("21: on the plane", shadowFrom(s, 4, 0, 0), NONE);
        due("21: on the eye's side", shadowFrom(s, 4, 0, 1), 1);
        s.eye(0, 0, -10);
        s.room.axis(0, 0, 0, 1);
        due("20: from below the other side is bright", levelFrom(s, -3, 0, -4), 12);
        due("20: and this one dark", levelFrom(s, -3, 0, 4), NONE);
        s.room.axis(0, 0, 0, -1);
        due("20: it hits nothing", s.room.lit(0, 0, 0), -3);
        due("21: it hits nothing", s.room.shadow(0, 0, 0), NONE);
    }

    private static void wrongOnes() {
        Scene s = floor(1);
        for (int v : new int[] {-1, 4, MIN, MAX}) {
            due("20: no such light", s.room.lit(0, 0, v), BAD);
            due("21: no such light", s.room.shadow(0, 0, v), BAD);
        }
        for (int v : new int[] {-1, 1, MIN, MAX}) {
            due("20: no such pixel", s.room.lit(v, 0, 0), BAD);
            due("20: no such pixel", s.room.lit(0, v, 0), BAD);
            due("21: no such pixel", s.room.shadow(v, 0, 0), BAD);
            due("21: no such pixel", s.room.shadow(0, v, 0), BAD);
            due("22: no such pixel", s.room.pixel(v, 0), BAD);
            due("22: no such pixel", s.room.pixel(0, v), BAD);
        }
        s.room.axis(0, 0, 0, 1);
        due("20: no such light, and no hit", s.room.lit(0, 0, 4), BAD);
        due("21: no such light, and no hit", s.room.shadow(0, 0, 4), BAD);
    }

    private static int shadowFrom(Scene s, int x, int y, int z) {
        s.light(0, 0, x, y, z);
        return s.room.shadow(0, 0, 0);
    }

    private static void shadows() {
        Scene s = floor(1);
        due("21: nothing between", shadowFrom(s, 4, 0, 4), NONE);
        s.triangle(1, 3, -2, 1, 3, 2, 1, 3, 0, 5);
        due("21: between", shadowFrom(s, 4, 0, 4), 1);
        due("20: between", s.room.lit(0, 0, 0), NONE);
        s.triangle(1, 2, -2, 1, 2, 2, 1, 2, 0, 5);
        due("21: the lesser number, not the nearer one", shadowFrom(s, 4, 0, 4), 1);
        s.move(1, 2, 3, 0, 2);
        due("21: now only the other", shadowFrom(s, 4, 0, 4), 2);
        due("21: beside both", shadowFrom(s, 0, 4, 4), NONE);
        due("21: on the other hand", shadowFrom(s, -4, 0, 4), NONE);
        due("21: strength 0 is asked too", s.room.shadow(0, 0, 3), NONE);
    }

    private static void shadowsAtTheirEdges() {
        Scene s = floor(1);
        s.triangle(1, 2, 0, 2, 2, 5, 2, 2, 5, 6);
        due("21: a corner", shadowFrom(s, 4, 0, 4), 1);
        due("20: a corner", s.room.lit(0, 0, 0), NONE);
        due("21: at its end", shadowFrom(s, 2, 0, 2), NONE);
        due("20: at its end", s.room.lit(0, 0, 0), 10);
        due("21: just beyond", shadowFrom(s, 3, 0, 3), 1);
        due("21: before", shadowFrom(s, 1, 0, 1), NONE);
        s.move(1, 0, 2, -5, 2);
        due("21: an edge", shadowFrom(s, 4, 0, 4), 1);
        Scene t = floor(1);
        t.triangle(1, 0, 0, 0, 9, 0, 0, 9, 0, 9);
        due("15: the floor comes first", t.room.hit(0, 0), 0);
        due("21: along a triangle's plane", shadowFrom(t, 4, 0, 2), NONE);
        t.triangle(1, 0, 0, 0, 9, -9, 0, 9, 9, 0);
        due("21: one that starts at the place", shadowFrom(t, 4, 0, 2), NONE);
        t.triangle(1, -100, -100, 0, 100, -100, 0, 0, 100, 0);
        due("21: the floor once more", shadowFrom(t, 4, 0, 2), NONE);
        due("20: the floor once more", t.room.lit(0, 0, 0), 6);
    }

    private static void pixels() {
        Scene s = floor(200);
        due("22: no light", s.room.pixel(0, 0), 0);
        s.room.set(1, 0, 10);
        due("22: 200 * 10 / 255", s.room.pixel(0, 0), 7);
        s.light(0, 255, 4, 0, 3);
        due("22: 200 * (10 + 153) / 255", s.room.pixel(0, 0), 127);
        s.room.set(0, 9, 52);
        due("22: 200 * (10 + 52) / 255", s.room.pixel(0, 0), 48);
        s.room.set(0, 8, 255);
        s.room.set(0, 10, 255);
        due("22: other levels do nothing", s.room.pixel(0, 0), 48);
        s.room.set(3, 0, 255);
        due("22: 255 * 62 / 255", s.room.pixel(0, 0), 62);
        s.light(0, 1, 0, 0, 255);
        due("22: the weakest light, from straight above", s.room.pixel(0, 0), 11);
        s.light(0, 0, 4, 0, 3);
        due("22: the light is out", s.room.pixel(0, 0), 10);
        s.room.set(2, 0, 33);
        due("22: back is not used", s.room.pixel(0, 0), 10);
        s.room.axis(0, 0, 0, 1);
        due("22: back", s.room.pixel(0, 0), 33);
        s.room.set(1, 0, 255);
        due("22: back as it is", s.room.pixel(0, 0), 33);
    }

    private static void pixelsAreCutOff() {
        Scene s = floor(255);
        s.light(0, 101, 4, 0, 3);
        due("22: 101 * 153 / 255 = 60.6", s.room.pixel(0, 0), 60);
        s.light(1, 101, -4, 0, 3);
        due("22: each light by itself", s.room.pixel(0, 0), 120);
        s.light(2, 101, 0, 4, 3);
        s.light(3, 101, 0, -4, 3);
        due("22: four of them", s.room.pixel(0, 0), 240);
        s.room.set(3, 0, 254);
        due("22: 254 * 240 / 255 = 239.06", s.room.pixel(0, 0), 239);
        s.room.set(3, 0, 255);
        s.room.set(1, 0, 15);
        due("22: 255", s.room.pixel(0, 0), 255);
        s.room.set(1, 0, 255);
        due("22: at most 255", s.room.pixel(0, 0), 255);
        s.room.set(3, 0, 100);
        due("22: 100 * 495 / 255 = 194.1", s.room.pixel(0, 0), 194);
        s.room.set(3, 0, 0);
        due("22: no tone", s.room.pixel(0, 0), 0);
    }

    private static void pixelsInShadow() {
        Scene s = floor(255);
        s.room.set(1, 0, 5);
        s.light(0, 255, 4, 0, 3);
        s.light(1, 100, -4, 0, 3);
        s.light(2, 255, 4, 0, -3);
        due("22: two lights", s.room.pixel(0, 0), 218);
        s.triangle(1, 2, -2, 0, 2, 2, 0, 2, 0, 5);
        due("22: one is in the way", s.room.pixel(0, 0), 65);
    }

    private static void pictures() {
        RayRoom r = new RayRoom();
        r.size(4, 3);
        r.set(2, 0, 9);
        due("23: nothing", r.picture(0, 0, 0, 0), 1);
        due("23: one", r.picture(0, 0, 1, 1), 40);
        due("23: two", r.picture(2, 1, 2, 1), 1249);
        due("23: two, the others are outside", r.picture(2, 2, 9, 9), 1249);
        due("23: two, the others are outside", r.picture(-3, -3, 5, 4), 1249);
        due("23: no width", r.picture(0, 0, -1, 5), 1);
        due("23: no height", r.picture(0, 0, 5, MIN), 1);
        due("23: beyond", r.picture(4, 0, 5, 5), 1);
        due("23: before", r.picture(-4, 0, 4, 5), 1);
        due("23: above", r.picture(0, -4, 4, 4), 1);
        due("23: below", r.picture(0, 3, 4, 4), 1);
        int all = r.picture(0, 0, 4, 3);
        int sum = 1;
        for (int k = 0; k < 12; k++) {
            sum = 31 * sum + 9;
        }
        due("23: all, in 32 bits that wrap", all, sum);
        due("23: all and more", r.picture(0, 0, MAX, MAX), sum);
        due("23: all and more", r.picture(-5, -5, MAX, MAX), sum);
        due("23: not that far", r.picture(MIN, MIN, MAX, MAX), 1);
        due("23: far out", r.picture(MAX, MAX, MAX, MAX), 1);
        due("23: far out", r.picture(MIN, MIN, MIN, MIN), 1);
        due("23: far out, not around", r.picture(MIN, MIN, MIN + 5, MIN + 5), 1);
        due("23: not around", r.picture(MAX, 0, MAX, 3), 1);
    }

    private static void pictureOrder() {
        Scene s = new Scene();
        // Only the pixel at the upper right is no back.
        s.triangle(255, 5, 5, 0, 15, 5, 0, 10, 15, 0);
        s.eye(0, 0, 10);
        s.room.size(2, 2);
        s.room.axis(0, 0, 0, -10);
        s.room.axis(1, 10, 0, 0);
        s.room.axis(2, 0, 10, 0);
        s.room.set(1, 0, 50);
        due("22: upper left", s.room.pixel(0, 0), 0);
        due("22: upper right", s.room.pixel(1, 0), 50);
        due("22: lower left", s.room.pixel(0, 1), 0);
        due("22: lower right", s.room.pixel(1, 1), 0);
        due("23: row by row", s.room.picture(0, 0, 2, 2), 31 * 31 * (31 * 31 + 50));
        due("23: a column", s.room.picture(1, 0, 1, 2), 31 * (31 + 50));
        due("23: a row", s.room.picture(0, 0, 2, 1), 31 * 31 + 50);
    }
}
