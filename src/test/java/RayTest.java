import java.math.BigInteger;
import java.util.Arrays;

/** Promises 15 to 18, 24 and 25: what rays hit, and what is told of it. */
public final class RayTest {
    private static final Check CHECK = new Check("RayTest");
    private static final int NONE = RayRoom.NONE;
    private static final int BAD = RayRoom.BAD;
    private static final int MIN = Integer.MIN_VALUE;
    private static final int MAX = Integer.MAX_VALUE;

    public static void main(String[] args) {
        hits();
        hitsEdges();
        hitsNothing();
        hitsTheLesserNumber();
        pixels();
        tells();
        tellsWhatWas();
        tellsGreatNumbers();
        crosses();
        seen();
        faces();
        CHECK.end();
    }

    private static void due(String call, long got, long want) {
        CHECK.due(call, got, want);
    }

    private static Scene floor() {
        Scene s = new Scene();
        s.triangle(100, -10, -10, 0, 10, -10, 0, 0, 10, 0);
        s.eye(0, 0, 10);
        return s;
    }

    private static void hits() {
        Scene s = floor();
        due("15: straight down", s.hitAlong(0, 0, -1), 0);
        CHECK.dueAll("16: told", s.allTold(), 0, 10, 1, 0, 0, 0, 1, 1, 1, 2, 4);
        due("15: a longer direction", s.hitAlong(0, 0, -1000), 0);
        CHECK.dueAll("16: told", s.allTold(), 0, 1, 100, 0, 0, 0, 1, 1, 1, 2, 4);
        due("15: aslant", s.hitAlong(1, 0, -3), 0);
        CHECK.dueAll("16: told", s.allTold(), 0, 10, 3, 10, 0, 0, 3, 1, 5, 6, 12);
        s.eye(0, 0, -10);
        due("15: from below", s.hitAlong(-1, 0, 3), 0);
        CHECK.dueAll("16: told", s.allTold(), 0, 10, 3, -10, 0, 0, 3, 5, 1, 6, 12);
    }

    private static void hitsEdges() {
        Scene s = floor();
        due("15: corner A", s.hitAlong(-10, -10, -10), 0);
        CHECK.dueAll("16: told", s.allTold(), 0, 1, 1, -10, -10, 0, 1, 1, 0, 0, 1);
        due("15: corner B", s.hitAlong(10, -10, -10), 0);
        CHECK.dueAll("16: told", s.allTold(), 0, 1, 1, 10, -10, 0, 1, 0, 1, 0, 1);
        due("15: corner C", s.hitAlong(0, 20, -20), 0);
        CHECK.dueAll("16: told", s.allTold(), 0, 1, 2, 0, 10, 0, 1, 0, 0, 1, 1);
        due("15: edge AB", s.hitAlong(0, -10, -10), 0);
        CHECK.dueAll("16: told", s.allTold(), 0, 1, 1, 0, -10, 0, 1, 1, 1, 0, 2);
        due("15: edge BC", s.hitAlong(5, 0, -10), 0);
        CHECK.dueAll("16: told", s.allTold(), 0, 1, 1, 5, 0, 0, 1, 0, 1, 1, 2);
        due("15: edge CA", s.hitAlong(-5, 0, -10), 0);
        CHECK.dueAll("16: told", s.allTold(), 0, 1, 1, -5, 0, 0, 1, 1, 0, 1, 2);
        due("15: just outside AB", s.hitAlong(0, -1001, -1000), NONE);
        due("15: just outside BC", s.hitAlong(501, 0, -1000), NONE);
        due("15: just outside CA", s.hitAlong(-501, 0, -1000), NONE);
        due("15: just inside BC", s.hitAlong(499, 0, -1000), 0);
    }

    private static void hitsNothing() {
        Scene s = floor();
        s.hitAlong(0, 0, -1);
        due("15: away", s.hitAlong(0, 0, 1), NONE);
        CHECK.dueTrue("15: nothing is at hand", Arrays.stream(s.allTold()).allMatch(v -> v == Scene.UNTOLD));
        due("15: along the plane", s.hitAlong(1, 1, 0), NONE);
        due("15: no direction", s.hitAlong(0, 0, 0), NONE);
        s.eye(0, 0, 0);
        due("15: t is 0", s.hitAlong(0, 0, -1), NONE);
        due("15: t is 0", s.hitAlong(0, 0, 1), NONE);
        due("15: in the plane", s.hitAlong(1, 0, 0), NONE);
        s.eye(-50, 0, 0);
        due("15: in the plane, at its edge", s.hitAlong(1, 0, 0), NONE);
    }

    private static void hitsTheLesserNumber() {
        Scene s = floor();
        s.triangle(1, 10, -10, 0, -10, -10, 0, 0, 10, 0);
        due("15: of two at one place the lesser", s.hitAlong(0, 0, -1), 0);
        s.triangle(1, -10, -10, 1, 10, -10, 1, 0, 10, 1);
        s.triangle(1, -10, -10, 1, 10, -10, 1, 0, 10, 1);
        due("15: the nearest", s.hitAlong(0, 0, -1), 2);
        s.eye(0, 0, -10);
        due("15: from below", s.hitAlong(0, 0, 1), 0);
        s.triangle(1, -10, -10, -1, 10, -10, -1, 0, 10, 0);
        due("15: a leaning one is nearer", s.hitAlong(0, 0, 1), 4);
        due("15: and as near at its corner", s.hitAlong(0, 10, 10), 0);
    }

    private static void pixels() {
        Scene s = new Scene();
        // One triangle for each place of a picture of 3 by 2, around the place that its ray comes to.
        for (int y = 0; y < 2; y++) {
            for (int x = 0; x < 3; x++) {
                int cx = 10 * (2 * x - 2);
                int cy = 10 * (1 - 2 * y);
                s.triangle(1, cx - 2, cy - 2, 0, cx + 2, cy - 2, 0, cx, cy + 2, 0);
            }
        }
        s.eye(0, 0, 10);
        s.room.size(3, 2);
        s.room.axis(0, 0, 0, -10);
        s.room.axis(1, 10, 0, 0);
        s.room.axis(2, 0, 10, 0);
        for (int k = 0; k < 6; k++) {
            due("15: pixel " + k, s.room.hit(k % 3, k / 3), k);
            due("17: pixel " + k, s.room.cross(k % 3, k / 3), 1);
            due("18: pixel " + k, s.room.crossing(0), k);
        }
        CHECK.dueAll("24: all are seen", s.allSeen(), 0, 1, 2, 3, 4, 5);
        int[][] wrong = {{-1, 0}, {0, -1}, {3, 0}, {0, 2}, {MIN, 0}, {0, MAX}, {MAX, MIN}};
        for (int[] p : wrong) {
            due("15: no such pixel", s.room.hit(p[0], p[1]), BAD);
            due("17: no such pixel", s.room.cross(p[0], p[1]), BAD);
            due("16: still at hand", s.room.told(0), 5);
            due("18: still crossed", s.room.crossing(0), 5);
        }
    }

    private static void tells() {
        Scene s = floor();
        due("16: before any hit", s.room.told(0), Scene.UNTOLD);
        s.hitAlong(0, 0, -1);
        for (int what : new int[] {-1, 11, MIN, MAX}) {
            due("16: another number", s.room.told(what), Scene.UNTOLD);
        }
        s.room.cross(0, 0);
        s.room.pixel(0, 0);
        s.room.lit(0, 0, 0);
        s.room.axis(0, 0, 0, 1);
        s.room.cross(0, 0);
        s.room.pixel(0, 0);
        s.room.shadow(0, 0, 0);
        s.room.seen(-1);
        s.room.picture(0, 0, 1, 1);
        due("16: only hit() changes what is at hand", s.room.told(1), 10);
    }

    private static void tellsWhatWas() {
        Scene s = floor();
        s.hitAlong(1, 0, -3);
        long[] before = s.allTold();
        s.move(0, 0, -100, -100, 5);
        s.eye(7, 7, 7);
        s.room.axis(0, 1, 2, 3);
        s.room.size(4, 4);
        s.triangle(1, -10, -10, 3, 10, -10, 3, 0, 10, 3);
        s.room.build(1);
        s.room.hit(9, 9);
        CHECK.dueAll("16: it stays, whatever changes", s.allTold(), before);
    }

    private static void tellsGreatNumbers() {
        int[] c = {255, -255, -254, -255, 255, -255, -255, -253, 255};
        int[] eye = {255, 254, 255};
        int[] d = {-1023, -1021, -1022};
        Scene s = new Scene();
        s.triangle(1, c);
        s.eye(eye[0], eye[1], eye[2]);
        due("15: across the whole room", s.hitAlong(d[0], d[1], d[2]), 0);
        long[] t = s.allTold();
        CHECK.dueTrue("16: least terms", gcd(t, 1, 2) == 1 && gcd(t, 3, 6) == 1 && gcd(t, 7, 10) == 1);
        CHECK.dueTrue("16: above 0", t[1] > 0 && t[2] > 0 && t[6] > 0 && t[10] > 0);
        CHECK.dueTrue("16: the weights are one together", t[7] + t[8] + t[9] == t[10]);
        for (int a = 0; a < 3; a++) {
            // place = E + t D, and place = the corners by their weights.
            BigInteger onRay = big(eye[a]).multiply(big(t[2])).add(big(d[a]).multiply(big(t[1])));
            CHECK.dueTrue("16: on the ray",
                big(t[3 + a]).multiply(big(t[2])).equals(onRay.multiply(big(t[6]))));
            BigInteger weighed = BigInteger.ZERO;
            for (int k = 0; k < 3; k++) {
                weighed = weighed.add(big(c[3 * k + a]).multiply(big(t[7 + k])));
            }
            CHECK.dueTrue("16: by the weights",
                big(t[3 + a]).multiply(big(t[10])).equals(weighed.multiply(big(t[6]))));
        }
    }

    private static BigInteger big(long v) {
        return BigInteger.valueOf(v);
    }

    private static long gcd(long[] row, int from, int to) {
        BigInteger g = BigInteger.ZERO;
        for (int k = from; k <= to; k++) {
            g = g.gcd(big(row[k]));
        }
        return g.longValueExact();
    }

    private static Scene stack(int... heights) {
        Scene s = new Scene();
        for (int z : heights) {
            s.triangle(1, -10, -10, z, 10, -10, z, 0, 10, z);
        }
        s.eye(0, 0, 10);
        s.room.axis(0, 0, 0, -1);
        return s;
    }

    private static void crosses() {
        Scene s = stack(0, 3, -5, 3, 20, 9, 10, 0);
        due("18: before any cross()", s.room.crossing(0), BAD);
        due("28: before any cross()", s.room.count(7), 0);
        due("17: six lie below", s.room.cross(0, 0), 6);
        due("28: crossings", s.room.count(7), 6);
        CHECK.dueAll("18: by t, then by number", s.allCrossings(), 5, 1, 3, 0, 7, 2);
        for (int k : new int[] {-1, 6, MIN, MAX}) {
            due("18: none such", s.room.crossing(k), BAD);
        }
        s.move(5, 2, 0, 10, -200);
        s.eye(0, 0, 100);
        s.room.axis(0, 0, 0, 1);
        s.triangle(1, -10, -10, 1, 10, -10, 1, 0, 10, 1);
        due("17: no pixel", s.room.cross(1, 0), BAD);
        CHECK.dueAll("18: whatever changes", s.allCrossings(), 5, 1, 3, 0, 7, 2);
        due("17: none", s.room.cross(0, 0), 0);
        due("18: none", s.room.crossing(0), BAD);
        due("28: none", s.room.count(7), 0);
        s.room.axis(0, 0, 0, 0);
        due("17: no direction", s.room.cross(0, 0), 0);
    }

    private static void seen() {
        Scene s = stack(5, 0, 5);
        s.triangle(1, 20, -10, 0, 40, -10, 0, 30, 10, 0);
        CHECK.dueAll("24: one ray", s.allSeen(), 0);
        s.room.size(3, 1);
        s.room.axis(0, 0, 0, -10);
        s.room.axis(1, 15, 0, 0);
        CHECK.dueAll("24: the middle and the right", s.allSeen(), 0, 3);
        due("24: how many", s.room.seen(-1), 2);
        for (int k : new int[] {-2, 2, MIN, MAX}) {
            due("24: none such", s.room.seen(k), BAD);
        }
        s.move(0, 0, 12, 10, 5);
        CHECK.dueAll("24: 0 is moved away", s.allSeen(), 2, 3);
        s.room.axis(0, 0, 0, 10);
        due("24: none", s.room.seen(-1), 0);
        due("24: none", s.room.seen(0), BAD);
    }

    private static void faces() {
        Scene s = floor();
        s.triangle(1, 0, 10, 0, 10, -10, 0, -10, -10, 0);
        due("25: N points to the eye", s.room.facing(0), 1);
        due("25: N points away", s.room.facing(1), -1);
        s.eye(255, -255, 0);
        due("25: on the plane", s.room.facing(0), 0);
        s.eye(255, -255, -1);
        due("25: behind", s.room.facing(0), -1);
        due("25: behind", s.room.facing(1), 1);
        for (int i : new int[] {-1, 2, MIN, MAX}) {
            due("25: none such", s.room.facing(i), -2);
        }
    }
}
